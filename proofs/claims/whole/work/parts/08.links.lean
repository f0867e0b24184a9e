theorem kcw_0 : ∀ w ∈ u_ws RX0 TX0 4, w ∈ lw_tbl ∧ goodWord w = true := by decide +kernel
theorem kcl_0 : kCl 0 RX0 TX0 4 tyX0 := ⟨rfl, fun w hw => kcw_0 w hw, tyX0_ok, nmX0⟩
theorem kcw_1 : ∀ w ∈ u_ws RX1 TX1 2, w ∈ lw_tbl ∧ goodWord w = true := by decide +kernel
theorem kcl_1 : kCl 1 RX1 TX1 2 tyX1 := ⟨rfl, fun w hw => kcw_1 w hw, tyX1_ok, nmX1⟩
theorem kcw_2 : ∀ w ∈ u_ws RX2 TX2 7, w ∈ lw_tbl ∧ goodWord w = true := by decide +kernel
theorem kcl_2 : kCl 2 RX2 TX2 7 tyX2 := ⟨rfl, fun w hw => kcw_2 w hw, tyX2_ok, nmX2⟩
theorem kcw_3 : ∀ w ∈ u_ws RX3 TX3 6, w ∈ lw_tbl ∧ goodWord w = true := by decide +kernel
theorem kcl_3 : kCl 3 RX3 TX3 6 tyX3 := ⟨rfl, fun w hw => kcw_3 w hw, tyX3_ok, nmX3⟩
theorem kcw_4 : ∀ w ∈ u_ws RX4 TX4 2, w ∈ lw_tbl ∧ goodWord w = true := by decide +kernel
theorem kcl_4 : kCl 4 RX4 TX4 2 tyX4 := ⟨rfl, fun w hw => kcw_4 w hw, tyX4_ok, nmX4⟩
theorem kcw_5 : ∀ w ∈ u_ws RX5 TX5 6, w ∈ lw_tbl ∧ goodWord w = true := by decide +kernel
theorem kcl_5 : kCl 5 RX5 TX5 6 tyX5 := ⟨rfl, fun w hw => kcw_5 w hw, tyX5_ok, nmX5⟩
theorem kcw_6 : ∀ w ∈ u_ws RX6 TX6 9, w ∈ lw_tbl ∧ goodWord w = true := by decide +kernel
theorem kcl_6 : kCl 6 RX6 TX6 9 tyX6 := ⟨rfl, fun w hw => kcw_6 w hw, tyX6_ok, nmX6⟩
theorem kcw_7 : ∀ w ∈ u_ws RX7 TX7 29, w ∈ lw_tbl ∧ goodWord w = true := by decide +kernel
theorem kcl_7 : kCl 7 RX7 TX7 29 tyX7 := ⟨rfl, fun w hw => kcw_7 w hw, tyX7_ok, nmX7⟩
abbrev mJ0_charAt_5068e : kM := (yJ0_charAt_5068e, cJ0_charAt_5068e, 2, (some .char))
abbrev mJ0_checkIndex_df160 : kM := (yJ0_checkIndex_df160, cJ0_checkIndex_df160, 2, none)
abbrev mJ0_coder_7d493 : kM := (yJ0_coder_7d493, cJ0_coder_7d493, 1, (some .byte))
abbrev mJ0_isLatin1_aae02 : kM := (yJ0_isLatin1_aae02, cJ0_isLatin1_aae02, 1, (some .boolean))
abbrev mJ0_length_8abf5 : kM := (yJ0_length_8abf5, cJ0_length_8abf5, 1, (some .int))
abbrev mJ1_charAt_3b067 : kM := (yJ1_charAt_3b067, cJ1_charAt_3b067, 2, (some .char))
abbrev mJ2_charAt_3b067 : kM := (yJ2_charAt_3b067, cJ2_charAt_3b067, 2, (some .char))
abbrev mJ2_checkIndex_2214a : kM := (yJ2_checkIndex_2214a, cJ2_checkIndex_2214a, 2, none)
abbrev mJ2_getChar_3b067 : kM := (yJ2_getChar_3b067, cJ2_getChar_3b067, 2, (some .char))
abbrev mJ2_length_9d52b : kM := (yJ2_length_9d52b, cJ2_length_9d52b, 1, (some .int))
abbrev mJ3_checkIndex_8e157 : kM := (yJ3_checkIndex_8e157, cJ3_checkIndex_8e157, 3, (some .int))
abbrev mJ6_bitCount_0f7a4 : kM := (yJ6_bitCount_0f7a4, cJ6_bitCount_0f7a4, 1, (some .int))
abbrev mJ9_min_7cf53 : kM := (yJ9_min_7cf53, cJ9_min_7cf53, 2, (some .int))
abbrev mX0_bringsAbout : kM := (yX0_bringsAbout, cX0_bringsAbout, 13, (some .boolean))
abbrev mX0_fewestPairs : kM := (yX0_fewestPairs, cX0_fewestPairs, 6, (some .int))
abbrev mX0_init : kM := (yX0_init, cX0_init, 1, none)
abbrev mX0_isRing : kM := (yX0_isRing, cX0_isRing, 3, (some .boolean))
abbrev mX0_lastDays : kM := (yX0_lastDays, cX0_lastDays, 6, (some .int))
abbrev mX0_leastRing : kM := (yX0_leastRing, cX0_leastRing, 4, (some .int))
abbrev mX0_noteInFront : kM := (yX0_noteInFront, cX0_noteInFront, 3, none)
abbrev mX0_outcome : kM := (yX0_outcome, cX0_outcome, 13, (some .int))
abbrev mX0_rulerAhead : kM := (yX0_rulerAhead, cX0_rulerAhead, 5, (some .int))
abbrev mX1_init : kM := (yX1_init, cX1_init, 1, none)
abbrev mX2_acquaintances : kM := (yX2_acquaintances, cX2_acquaintances, 4, (some .int))
abbrev mX2_allCounts : kM := (yX2_allCounts, cX2_allCounts, 3, (some .int))
abbrev mX2_begin : kM := (yX2_begin, cX2_begin, 3, none)
abbrev mX2_copyFrom : kM := (yX2_copyFrom, cX2_copyFrom, 2, none)
abbrev mX2_crown : kM := (yX2_crown, cX2_crown, 4, none)
abbrev mX2_fewestAsks : kM := (yX2_fewestAsks, cX2_fewestAsks, 8, (some .int))
abbrev mX2_forget : kM := (yX2_forget, cX2_forget, 4, none)
abbrev mX2_init : kM := (yX2_init, cX2_init, 1, none)
abbrev mX2_isAware : kM := (yX2_isAware, cX2_isAware, 3, (some .boolean))
abbrev mX2_isParty : kM := (yX2_isParty, cX2_isParty, 4, (some .boolean))
abbrev mX2_learn : kM := (yX2_learn, cX2_learn, 4, (some .int))
abbrev mX2_setKnowers : kM := (yX2_setKnowers, cX2_setKnowers, 3, none)
abbrev mX2_sight : kM := (yX2_sight, cX2_sight, 3, (some .int))
abbrev mX2_spring : kM := (yX2_spring, cX2_spring, 4, (some .int))
abbrev mX3_findTokens : kM := (yX3_findTokens, cX3_findTokens, 4, none)
abbrev mX3_init : kM := (yX3_init, cX3_init, 1, none)
abbrev mX3_isWord : kM := (yX3_isWord, cX3_isWord, 7, (some .boolean))
abbrev mX3_mayBegin : kM := (yX3_mayBegin, cX3_mayBegin, 3, (some .boolean))
abbrev mX3_number : kM := (yX3_number, cX3_number, 1, (some .int))
abbrev mX3_numberAt : kM := (yX3_numberAt, cX3_numberAt, 4, (some .int))
abbrev mX3_read : kM := (yX3_read, cX3_read, 4, (some .int))
abbrev mX3_readForgets : kM := (yX3_readForgets, cX3_readForgets, 3, (some .boolean))
abbrev mX3_readItem : kM := (yX3_readItem, cX3_readItem, 4, none)
abbrev mX3_readLaw : kM := (yX3_readLaw, cX3_readLaw, 4, (some .boolean))
abbrev mX3_readPair : kM := (yX3_readPair, cX3_readPair, 6, (some .boolean))
abbrev mX3_take : kM := (yX3_take, cX3_take, 2, (some .boolean))
abbrev mX3_tokenAt : kM := (yX3_tokenAt, cX3_tokenAt, 3, (some .int))
abbrev mX3_wordAt : kM := (yX3_wordAt, cX3_wordAt, 3, (some .int))
abbrev mX4_add : kM := (yX4_add, cX4_add, 2, none)
abbrev mX4_begins : kM := (yX4_begins, cX4_begins, 6, (some .boolean))
abbrev mX4_byteAt : kM := (yX4_byteAt, cX4_byteAt, 2, (some .int))
abbrev mX4_init : kM := (yX4_init, cX4_init, 1, none)
abbrev mX4_isDigit : kM := (yX4_isDigit, cX4_isDigit, 1, (some .boolean))
abbrev mX4_isLetter : kM := (yX4_isLetter, cX4_isLetter, 1, (some .boolean))
abbrev mX5_choose : kM := (yX5_choose, cX5_choose, 6, (some .int))
abbrev mX5_empty : kM := (yX5_empty, cX5_empty, 1, none)
abbrev mX5_everyone : kM := (yX5_everyone, cX5_everyone, 1, (some .int))
abbrev mX5_firstWith : kM := (yX5_firstWith, cX5_firstWith, 4, (some .int))
abbrev mX5_habits : kM := (yX5_habits, cX5_habits, 3, (some .int))
abbrev mX5_init : kM := (yX5_init, cX5_init, 1, none)
abbrev mX5_leastOf : kM := (yX5_leastOf, cX5_leastOf, 6, (some .int))
abbrev mX5_tell : kM := (yX5_tell, cX5_tell, 3, none)
abbrev mX6_anew : kM := (yX6_anew, cX6_anew, 2, (some .int))
abbrev mX6_asHermit : kM := (yX6_asHermit, cX6_asHermit, 2, (some .int))
abbrev mX6_asKnown : kM := (yX6_asKnown, cX6_asKnown, 2, (some .int))
abbrev mX6_asMayor : kM := (yX6_asMayor, cX6_asMayor, 2, (some .int))
abbrev mX6_asPerson : kM := (yX6_asPerson, cX6_asPerson, 2, (some .int))
abbrev mX6_asShy : kM := (yX6_asShy, cX6_asShy, 2, (some .int))
abbrev mX6_asStranger : kM := (yX6_asStranger, cX6_asStranger, 2, (some .int))
abbrev mX6_asks : kM := (yX6_asks, cX6_asks, 3, (some .int))
abbrev mX6_at : kM := (yX6_at, cX6_at, 2, (some .int))
abbrev mX6_back : kM := (yX6_back, cX6_back, 3, (some .int))
abbrev mX6_brings : kM := (yX6_brings, cX6_brings, 5, (some .int))
abbrev mX6_chosen : kM := (yX6_chosen, cX6_chosen, 1, (some .int))
abbrev mX6_clear : kM := (yX6_clear, cX6_clear, 2, (some .int))
abbrev mX6_copy : kM := (yX6_copy, cX6_copy, 3, none)
abbrev mX6_count : kM := (yX6_count, cX6_count, 2, (some .int))
abbrev mX6_days : kM := (yX6_days, cX6_days, 6, (some .int))
abbrev mX6_fill : kM := (yX6_fill, cX6_fill, 3, none)
abbrev mX6_go : kM := (yX6_go, cX6_go, 4, (some .int))
abbrev mX6_imageOf : kM := (yX6_imageOf, cX6_imageOf, 2, (some (.object "LeastKnown$Image")))
abbrev mX6_init : kM := (yX6_init, cX6_init, 1, none)
abbrev mX6_introduce : kM := (yX6_introduce, cX6_introduce, 4, (some .int))
abbrev mX6_isChoice : kM := (yX6_isChoice, cX6_isChoice, 1, (some .boolean))
abbrev mX6_isPair : kM := (yX6_isPair, cX6_isPair, 3, (some .boolean))
abbrev mX6_isPerson : kM := (yX6_isPerson, cX6_isPerson, 2, (some .boolean))
abbrev mX6_keep : kM := (yX6_keep, cX6_keep, 3, (some .int))
abbrev mX6_knows : kM := (yX6_knows, cX6_knows, 3, (some .int))
abbrev mX6_law : kM := (yX6_law, cX6_law, 2, (some .int))
abbrev mX6_meet : kM := (yX6_meet, cX6_meet, 3, (some .int))
abbrev mX6_moves : kM := (yX6_moves, cX6_moves, 3, (some .int))
abbrev mX6_now : kM := (yX6_now, cX6_now, 2, (some .int))
abbrev mX6_parties : kM := (yX6_parties, cX6_parties, 7, (some .int))
abbrev mX6_party : kM := (yX6_party, cX6_party, 2, (some .int))
abbrev mX6_person : kM := (yX6_person, cX6_person, 3, (some .int))
abbrev mX6_put : kM := (yX6_put, cX6_put, 3, none)
abbrev mX6_rate : kM := (yX6_rate, cX6_rate, 3, (some .int))
abbrev mX6_reigns : kM := (yX6_reigns, cX6_reigns, 2, (some .int))
abbrev mX6_ring : kM := (yX6_ring, cX6_ring, 1, (some .int))
abbrev mX6_rules : kM := (yX6_rules, cX6_rules, 5, (some .int))
abbrev mX6_seen : kM := (yX6_seen, cX6_seen, 3, (some .int))
abbrev mX6_town : kM := (yX6_town, cX6_town, 3, (some .int))
abbrev mX6_trace : kM := (yX6_trace, cX6_trace, 1, (some .long))
abbrev mX6_type : kM := (yX6_type, cX6_type, 5, (some .int))
abbrev mX7_acts : kM := (yX7_acts, cX7_acts, 5, (some .boolean))
abbrev mX7_add : kM := (yX7_add, cX7_add, 3, (some .long))
abbrev mX7_advances : kM := (yX7_advances, cX7_advances, 4, none)
abbrev mX7_anew : kM := (yX7_anew, cX7_anew, 2, (some .int))
abbrev mX7_areTwo : kM := (yX7_areTwo, cX7_areTwo, 3, (some .boolean))
abbrev mX7_aside : kM := (yX7_aside, cX7_aside, 3, none)
abbrev mX7_asideOf : kM := (yX7_asideOf, cX7_asideOf, 4, none)
abbrev mX7_asks : kM := (yX7_asks, cX7_asks, 7, (some .int))
abbrev mX7_back : kM := (yX7_back, cX7_back, 3, (some .int))
abbrev mX7_begins : kM := (yX7_begins, cX7_begins, 2, none)
abbrev mX7_brings : kM := (yX7_brings, cX7_brings, 6, (some .int))
abbrev mX7_bringsBy : kM := (yX7_bringsBy, cX7_bringsBy, 5, (some .int))
abbrev mX7_byteAt : kM := (yX7_byteAt, cX7_byteAt, 2, (some .int))
abbrev mX7_chosen : kM := (yX7_chosen, cX7_chosen, 1, (some .int))
abbrev mX7_chosenNow : kM := (yX7_chosenNow, cX7_chosenNow, 5, (some .int))
abbrev mX7_clear : kM := (yX7_clear, cX7_clear, 2, (some .int))
abbrev mX7_count : kM := (yX7_count, cX7_count, 4, (some .int))
abbrev mX7_countAll : kM := (yX7_countAll, cX7_countAll, 3, (some .int))
abbrev mX7_countOf : kM := (yX7_countOf, cX7_countOf, 4, (some .int))
abbrev mX7_days : kM := (yX7_days, cX7_days, 6, (some .int))
abbrev mX7_firstDay : kM := (yX7_firstDay, cX7_firstDay, 8, (some .int))
abbrev mX7_go : kM := (yX7_go, cX7_go, 3, (some .int))
abbrev mX7_in : kM := (yX7_in, cX7_in, 3, (some .boolean))
abbrev mX7_init : kM := (yX7_init, cX7_init, 2, none)
abbrev mX7_introduce : kM := (yX7_introduce, cX7_introduce, 4, (some .int))
abbrev mX7_isKnown : kM := (yX7_isKnown, cX7_isKnown, 3, (some .boolean))
abbrev mX7_isParty : kM := (yX7_isParty, cX7_isParty, 5, (some .boolean))
abbrev mX7_isPerson : kM := (yX7_isPerson, cX7_isPerson, 2, (some .boolean))
abbrev mX7_isSo : kM := (yX7_isSo, cX7_isSo, 3, (some .boolean))
abbrev mX7_isWell : kM := (yX7_isWell, cX7_isWell, 1, (some .boolean))
abbrev mX7_keep : kM := (yX7_keep, cX7_keep, 3, (some .int))
abbrev mX7_knows : kM := (yX7_knows, cX7_knows, 3, (some .int))
abbrev mX7_lastButOne : kM := (yX7_lastButOne, cX7_lastButOne, 9, (some .int))
abbrev mX7_lastDay : kM := (yX7_lastDay, cX7_lastDay, 8, (some .int))
abbrev mX7_law : kM := (yX7_law, cX7_law, 2, (some .int))
abbrev mX7_learns : kM := (yX7_learns, cX7_learns, 4, (some .int))
abbrev mX7_leastOf : kM := (yX7_leastOf, cX7_leastOf, 5, (some .int))
abbrev mX7_meet : kM := (yX7_meet, cX7_meet, 3, (some .int))
abbrev mX7_meets : kM := (yX7_meets, cX7_meets, 2, none)
abbrev mX7_moves : kM := (yX7_moves, cX7_moves, 4, (some .int))
abbrev mX7_named : kM := (yX7_named, cX7_named, 6, (some .long))
abbrev mX7_nextPair : kM := (yX7_nextPair, cX7_nextPair, 3, (some .int))
abbrev mX7_now : kM := (yX7_now, cX7_now, 2, (some .int))
abbrev mX7_number : kM := (yX7_number, cX7_number, 3, (some .int))
abbrev mX7_ones : kM := (yX7_ones, cX7_ones, 3, (some .int))
abbrev mX7_parties : kM := (yX7_parties, cX7_parties, 5, (some .int))
abbrev mX7_party : kM := (yX7_party, cX7_party, 2, (some .int))
abbrev mX7_person : kM := (yX7_person, cX7_person, 3, (some .int))
abbrev mX7_rate : kM := (yX7_rate, cX7_rate, 6, (some .int))
abbrev mX7_readsItem : kM := (yX7_readsItem, cX7_readsItem, 3, none)
abbrev mX7_readsTwo : kM := (yX7_readsTwo, cX7_readsTwo, 4, none)
abbrev mX7_reigns : kM := (yX7_reigns, cX7_reigns, 4, (some .int))
abbrev mX7_ring : kM := (yX7_ring, cX7_ring, 4, (some .int))
abbrev mX7_rules : kM := (yX7_rules, cX7_rules, 4, (some .int))
abbrev mX7_seen : kM := (yX7_seen, cX7_seen, 3, (some .int))
abbrev mX7_springs : kM := (yX7_springs, cX7_springs, 3, (some .int))
abbrev mX7_takes : kM := (yX7_takes, cX7_takes, 3, (some .int))
abbrev mX7_town : kM := (yX7_town, cX7_town, 4, (some .int))
abbrev mX7_trace : kM := (yX7_trace, cX7_trace, 1, (some .long))
abbrev mX7_type : kM := (yX7_type, cX7_type, 5, (some .int))
abbrev mX7_whoOf : kM := (yX7_whoOf, cX7_whoOf, 3, (some .int))
abbrev mX7_wordOf : kM := (yX7_wordOf, cX7_wordOf, 4, (some .int))
theorem km_J0_charAt_5068e : kMe mJ0_charAt_5068e 1 := ⟨⟨List.mem_of_getElem? (i := 351) (by decide +kernel), by decide +kernel⟩, ⟨List.mem_of_getElem? (i := 61) (by decide +kernel), by decide +kernel⟩, ⟨by decide +kernel, by decide +kernel, by decide +kernel⟩, by decide⟩
theorem km_J0_length_8abf5 : kMe mJ0_length_8abf5 0 := ⟨⟨List.mem_of_getElem? (i := 341) (by decide +kernel), by decide +kernel⟩, ⟨List.mem_of_getElem? (i := 61) (by decide +kernel), by decide +kernel⟩, ⟨by decide +kernel, by decide +kernel, by decide +kernel⟩, by decide⟩
theorem km_J6_bitCount_0f7a4 : kMe mJ6_bitCount_0f7a4 1 := ⟨⟨List.mem_of_getElem? (i := 252) (by decide +kernel), by decide +kernel⟩, ⟨List.mem_of_getElem? (i := 59) (by decide +kernel), by decide +kernel⟩, ⟨by decide +kernel, by decide +kernel, by decide +kernel⟩, by decide⟩
theorem km_J9_min_7cf53 : kMe mJ9_min_7cf53 2 := ⟨⟨List.mem_of_getElem? (i := 512) (by decide +kernel), by decide +kernel⟩, ⟨List.mem_of_getElem? (i := 65) (by decide +kernel), by decide +kernel⟩, ⟨by decide +kernel, by decide +kernel, by decide +kernel⟩, by decide⟩
theorem km_X0_bringsAbout : kMe mX0_bringsAbout 6 := ⟨⟨List.mem_of_getElem? (i := 583) (by decide +kernel), by decide +kernel⟩, ⟨List.mem_of_getElem? (i := 57) (by decide +kernel), by decide +kernel⟩, ⟨by decide +kernel, by decide +kernel, by decide +kernel⟩, by decide⟩
theorem km_X0_fewestPairs : kMe mX0_fewestPairs 4 := ⟨⟨List.mem_of_getElem? (i := 580) (by decide +kernel), by decide +kernel⟩, ⟨List.mem_of_getElem? (i := 57) (by decide +kernel), by decide +kernel⟩, ⟨by decide +kernel, by decide +kernel, by decide +kernel⟩, by decide⟩
theorem km_X0_init : kMe mX0_init 0 := ⟨⟨List.mem_of_getElem? (i := 170) (by decide +kernel), by decide +kernel⟩, ⟨List.mem_of_getElem? (i := 57) (by decide +kernel), by decide +kernel⟩, ⟨by decide +kernel, by decide +kernel, by decide +kernel⟩, by decide⟩
theorem km_X0_isRing : kMe mX0_isRing 1 := ⟨⟨List.mem_of_getElem? (i := 568) (by decide +kernel), by decide +kernel⟩, ⟨List.mem_of_getElem? (i := 57) (by decide +kernel), by decide +kernel⟩, ⟨by decide +kernel, by decide +kernel, by decide +kernel⟩, by decide⟩
theorem km_X0_lastDays : kMe mX0_lastDays 5 := ⟨⟨List.mem_of_getElem? (i := 597) (by decide +kernel), by decide +kernel⟩, ⟨List.mem_of_getElem? (i := 57) (by decide +kernel), by decide +kernel⟩, ⟨by decide +kernel, by decide +kernel, by decide +kernel⟩, by decide⟩
theorem km_X0_leastRing : kMe mX0_leastRing 2 := ⟨⟨List.mem_of_getElem? (i := 563) (by decide +kernel), by decide +kernel⟩, ⟨List.mem_of_getElem? (i := 57) (by decide +kernel), by decide +kernel⟩, ⟨by decide +kernel, by decide +kernel, by decide +kernel⟩, by decide⟩
theorem km_X0_noteInFront : kMe mX0_noteInFront 1 := ⟨⟨List.mem_of_getElem? (i := 589) (by decide +kernel), by decide +kernel⟩, ⟨List.mem_of_getElem? (i := 57) (by decide +kernel), by decide +kernel⟩, ⟨by decide +kernel, by decide +kernel, by decide +kernel⟩, by decide⟩
theorem km_X0_outcome : kMe mX0_outcome 6 := ⟨⟨List.mem_of_getElem? (i := 601) (by decide +kernel), by decide +kernel⟩, ⟨List.mem_of_getElem? (i := 57) (by decide +kernel), by decide +kernel⟩, ⟨by decide +kernel, by decide +kernel, by decide +kernel⟩, by decide⟩
theorem km_X0_rulerAhead : kMe mX0_rulerAhead 3 := ⟨⟨List.mem_of_getElem? (i := 547) (by decide +kernel), by decide +kernel⟩, ⟨List.mem_of_getElem? (i := 57) (by decide +kernel), by decide +kernel⟩, ⟨by decide +kernel, by decide +kernel, by decide +kernel⟩, by decide⟩
theorem km_X1_init : kMe mX1_init 0 := ⟨⟨List.mem_of_getElem? (i := 154) (by decide +kernel), by decide +kernel⟩, ⟨List.mem_of_getElem? (i := 56) (by decide +kernel), by decide +kernel⟩, ⟨by decide +kernel, by decide +kernel, by decide +kernel⟩, by decide⟩
theorem km_X2_acquaintances : kMe mX2_acquaintances 1 := ⟨⟨List.mem_of_getElem? (i := 460) (by decide +kernel), by decide +kernel⟩, ⟨List.mem_of_getElem? (i := 55) (by decide +kernel), by decide +kernel⟩, ⟨by decide +kernel, by decide +kernel, by decide +kernel⟩, by decide⟩
theorem km_X2_allCounts : kMe mX2_allCounts 0 := ⟨⟨List.mem_of_getElem? (i := 535) (by decide +kernel), by decide +kernel⟩, ⟨List.mem_of_getElem? (i := 55) (by decide +kernel), by decide +kernel⟩, ⟨by decide +kernel, by decide +kernel, by decide +kernel⟩, by decide⟩
theorem km_X2_begin : kMe mX2_begin 1 := ⟨⟨List.mem_of_getElem? (i := 239) (by decide +kernel), by decide +kernel⟩, ⟨List.mem_of_getElem? (i := 55) (by decide +kernel), by decide +kernel⟩, ⟨by decide +kernel, by decide +kernel, by decide +kernel⟩, by decide⟩
theorem km_X2_copyFrom : kMe mX2_copyFrom 1 := ⟨⟨List.mem_of_getElem? (i := 551) (by decide +kernel), by decide +kernel⟩, ⟨List.mem_of_getElem? (i := 55) (by decide +kernel), by decide +kernel⟩, ⟨by decide +kernel, by decide +kernel, by decide +kernel⟩, by decide⟩
theorem km_X2_crown : kMe mX2_crown 2 := ⟨⟨List.mem_of_getElem? (i := 522) (by decide +kernel), by decide +kernel⟩, ⟨List.mem_of_getElem? (i := 55) (by decide +kernel), by decide +kernel⟩, ⟨by decide +kernel, by decide +kernel, by decide +kernel⟩, by decide⟩
theorem km_X2_fewestAsks : kMe mX2_fewestAsks 3 := ⟨⟨List.mem_of_getElem? (i := 609) (by decide +kernel), by decide +kernel⟩, ⟨List.mem_of_getElem? (i := 55) (by decide +kernel), by decide +kernel⟩, ⟨by decide +kernel, by decide +kernel, by decide +kernel⟩, by decide⟩
theorem km_X2_forget : kMe mX2_forget 1 := ⟨⟨List.mem_of_getElem? (i := 526) (by decide +kernel), by decide +kernel⟩, ⟨List.mem_of_getElem? (i := 55) (by decide +kernel), by decide +kernel⟩, ⟨by decide +kernel, by decide +kernel, by decide +kernel⟩, by decide⟩
theorem km_X2_init : kMe mX2_init 0 := ⟨⟨List.mem_of_getElem? (i := 119) (by decide +kernel), by decide +kernel⟩, ⟨List.mem_of_getElem? (i := 55) (by decide +kernel), by decide +kernel⟩, ⟨by decide +kernel, by decide +kernel, by decide +kernel⟩, by decide⟩
theorem km_X2_isAware : kMe mX2_isAware 2 := ⟨⟨List.mem_of_getElem? (i := 442) (by decide +kernel), by decide +kernel⟩, ⟨List.mem_of_getElem? (i := 55) (by decide +kernel), by decide +kernel⟩, ⟨by decide +kernel, by decide +kernel, by decide +kernel⟩, by decide⟩
theorem km_X2_isParty : kMe mX2_isParty 1 := ⟨⟨List.mem_of_getElem? (i := 618) (by decide +kernel), by decide +kernel⟩, ⟨List.mem_of_getElem? (i := 55) (by decide +kernel), by decide +kernel⟩, ⟨by decide +kernel, by decide +kernel, by decide +kernel⟩, by decide⟩
theorem km_X2_learn : kMe mX2_learn 2 := ⟨⟨List.mem_of_getElem? (i := 496) (by decide +kernel), by decide +kernel⟩, ⟨List.mem_of_getElem? (i := 55) (by decide +kernel), by decide +kernel⟩, ⟨by decide +kernel, by decide +kernel, by decide +kernel⟩, by decide⟩
theorem km_X2_setKnowers : kMe mX2_setKnowers 2 := ⟨⟨List.mem_of_getElem? (i := 246) (by decide +kernel), by decide +kernel⟩, ⟨List.mem_of_getElem? (i := 55) (by decide +kernel), by decide +kernel⟩, ⟨by decide +kernel, by decide +kernel, by decide +kernel⟩, by decide⟩
theorem km_X2_sight : kMe mX2_sight 2 := ⟨⟨List.mem_of_getElem? (i := 451) (by decide +kernel), by decide +kernel⟩, ⟨List.mem_of_getElem? (i := 55) (by decide +kernel), by decide +kernel⟩, ⟨by decide +kernel, by decide +kernel, by decide +kernel⟩, by decide⟩
theorem km_X2_spring : kMe mX2_spring 1 := ⟨⟨List.mem_of_getElem? (i := 516) (by decide +kernel), by decide +kernel⟩, ⟨List.mem_of_getElem? (i := 55) (by decide +kernel), by decide +kernel⟩, ⟨by decide +kernel, by decide +kernel, by decide +kernel⟩, by decide⟩
theorem km_X3_findTokens : kMe mX3_findTokens 1 := ⟨⟨List.mem_of_getElem? (i := 310) (by decide +kernel), by decide +kernel⟩, ⟨List.mem_of_getElem? (i := 54) (by decide +kernel), by decide +kernel⟩, ⟨by decide +kernel, by decide +kernel, by decide +kernel⟩, by decide⟩
theorem km_X3_init : kMe mX3_init 0 := ⟨⟨List.mem_of_getElem? (i := 94) (by decide +kernel), by decide +kernel⟩, ⟨List.mem_of_getElem? (i := 54) (by decide +kernel), by decide +kernel⟩, ⟨by decide +kernel, by decide +kernel, by decide +kernel⟩, by decide⟩
theorem km_X3_isWord : kMe mX3_isWord 3 := ⟨⟨List.mem_of_getElem? (i := 336) (by decide +kernel), by decide +kernel⟩, ⟨List.mem_of_getElem? (i := 54) (by decide +kernel), by decide +kernel⟩, ⟨by decide +kernel, by decide +kernel, by decide +kernel⟩, by decide⟩
theorem km_X3_mayBegin : kMe mX3_mayBegin 2 := ⟨⟨List.mem_of_getElem? (i := 399) (by decide +kernel), by decide +kernel⟩, ⟨List.mem_of_getElem? (i := 54) (by decide +kernel), by decide +kernel⟩, ⟨by decide +kernel, by decide +kernel, by decide +kernel⟩, by decide⟩
theorem km_X3_number : kMe mX3_number 0 := ⟨⟨List.mem_of_getElem? (i := 411) (by decide +kernel), by decide +kernel⟩, ⟨List.mem_of_getElem? (i := 54) (by decide +kernel), by decide +kernel⟩, ⟨by decide +kernel, by decide +kernel, by decide +kernel⟩, by decide⟩
theorem km_X3_numberAt : kMe mX3_numberAt 2 := ⟨⟨List.mem_of_getElem? (i := 389) (by decide +kernel), by decide +kernel⟩, ⟨List.mem_of_getElem? (i := 54) (by decide +kernel), by decide +kernel⟩, ⟨by decide +kernel, by decide +kernel, by decide +kernel⟩, by decide⟩
theorem km_X3_read : kMe mX3_read 2 := ⟨⟨List.mem_of_getElem? (i := 305) (by decide +kernel), by decide +kernel⟩, ⟨List.mem_of_getElem? (i := 54) (by decide +kernel), by decide +kernel⟩, ⟨by decide +kernel, by decide +kernel, by decide +kernel⟩, by decide⟩
theorem km_X3_readForgets : kMe mX3_readForgets 1 := ⟨⟨List.mem_of_getElem? (i := 407) (by decide +kernel), by decide +kernel⟩, ⟨List.mem_of_getElem? (i := 54) (by decide +kernel), by decide +kernel⟩, ⟨by decide +kernel, by decide +kernel, by decide +kernel⟩, by decide⟩
theorem km_X3_readItem : kMe mX3_readItem 1 := ⟨⟨List.mem_of_getElem? (i := 395) (by decide +kernel), by decide +kernel⟩, ⟨List.mem_of_getElem? (i := 54) (by decide +kernel), by decide +kernel⟩, ⟨by decide +kernel, by decide +kernel, by decide +kernel⟩, by decide⟩
theorem km_X3_readLaw : kMe mX3_readLaw 1 := ⟨⟨List.mem_of_getElem? (i := 415) (by decide +kernel), by decide +kernel⟩, ⟨List.mem_of_getElem? (i := 54) (by decide +kernel), by decide +kernel⟩, ⟨by decide +kernel, by decide +kernel, by decide +kernel⟩, by decide⟩
theorem km_X3_readPair : kMe mX3_readPair 2 := ⟨⟨List.mem_of_getElem? (i := 419) (by decide +kernel), by decide +kernel⟩, ⟨List.mem_of_getElem? (i := 54) (by decide +kernel), by decide +kernel⟩, ⟨by decide +kernel, by decide +kernel, by decide +kernel⟩, by decide⟩
theorem km_X3_take : kMe mX3_take 1 := ⟨⟨List.mem_of_getElem? (i := 403) (by decide +kernel), by decide +kernel⟩, ⟨List.mem_of_getElem? (i := 54) (by decide +kernel), by decide +kernel⟩, ⟨by decide +kernel, by decide +kernel, by decide +kernel⟩, by decide⟩
theorem km_X3_tokenAt : kMe mX3_tokenAt 2 := ⟨⟨List.mem_of_getElem? (i := 328) (by decide +kernel), by decide +kernel⟩, ⟨List.mem_of_getElem? (i := 54) (by decide +kernel), by decide +kernel⟩, ⟨by decide +kernel, by decide +kernel, by decide +kernel⟩, by decide⟩
theorem km_X3_wordAt : kMe mX3_wordAt 2 := ⟨⟨List.mem_of_getElem? (i := 333) (by decide +kernel), by decide +kernel⟩, ⟨List.mem_of_getElem? (i := 54) (by decide +kernel), by decide +kernel⟩, ⟨by decide +kernel, by decide +kernel, by decide +kernel⟩, by decide⟩
theorem km_X4_add : kMe mX4_add 1 := ⟨⟨List.mem_of_getElem? (i := 292) (by decide +kernel), by decide +kernel⟩, ⟨List.mem_of_getElem? (i := 53) (by decide +kernel), by decide +kernel⟩, ⟨by decide +kernel, by decide +kernel, by decide +kernel⟩, by decide⟩
theorem km_X4_begins : kMe mX4_begins 1 := ⟨⟨List.mem_of_getElem? (i := 314) (by decide +kernel), by decide +kernel⟩, ⟨List.mem_of_getElem? (i := 53) (by decide +kernel), by decide +kernel⟩, ⟨by decide +kernel, by decide +kernel, by decide +kernel⟩, by decide⟩
theorem km_X4_byteAt : kMe mX4_byteAt 1 := ⟨⟨List.mem_of_getElem? (i := 318) (by decide +kernel), by decide +kernel⟩, ⟨List.mem_of_getElem? (i := 53) (by decide +kernel), by decide +kernel⟩, ⟨by decide +kernel, by decide +kernel, by decide +kernel⟩, by decide⟩
theorem km_X4_init : kMe mX4_init 0 := ⟨⟨List.mem_of_getElem? (i := 78) (by decide +kernel), by decide +kernel⟩, ⟨List.mem_of_getElem? (i := 53) (by decide +kernel), by decide +kernel⟩, ⟨by decide +kernel, by decide +kernel, by decide +kernel⟩, by decide⟩
theorem km_X4_isDigit : kMe mX4_isDigit 1 := ⟨⟨List.mem_of_getElem? (i := 325) (by decide +kernel), by decide +kernel⟩, ⟨List.mem_of_getElem? (i := 53) (by decide +kernel), by decide +kernel⟩, ⟨by decide +kernel, by decide +kernel, by decide +kernel⟩, by decide⟩
theorem km_X4_isLetter : kMe mX4_isLetter 1 := ⟨⟨List.mem_of_getElem? (i := 322) (by decide +kernel), by decide +kernel⟩, ⟨List.mem_of_getElem? (i := 53) (by decide +kernel), by decide +kernel⟩, ⟨by decide +kernel, by decide +kernel, by decide +kernel⟩, by decide⟩
theorem km_X5_choose : kMe mX5_choose 1 := ⟨⟨List.mem_of_getElem? (i := 477) (by decide +kernel), by decide +kernel⟩, ⟨List.mem_of_getElem? (i := 58) (by decide +kernel), by decide +kernel⟩, ⟨by decide +kernel, by decide +kernel, by decide +kernel⟩, by decide⟩
theorem km_X5_empty : kMe mX5_empty 0 := ⟨⟨List.mem_of_getElem? (i := 198) (by decide +kernel), by decide +kernel⟩, ⟨List.mem_of_getElem? (i := 58) (by decide +kernel), by decide +kernel⟩, ⟨by decide +kernel, by decide +kernel, by decide +kernel⟩, by decide⟩
theorem km_X5_everyone : kMe mX5_everyone 0 := ⟨⟨List.mem_of_getElem? (i := 481) (by decide +kernel), by decide +kernel⟩, ⟨List.mem_of_getElem? (i := 58) (by decide +kernel), by decide +kernel⟩, ⟨by decide +kernel, by decide +kernel, by decide +kernel⟩, by decide⟩
theorem km_X5_firstWith : kMe mX5_firstWith 2 := ⟨⟨List.mem_of_getElem? (i := 488) (by decide +kernel), by decide +kernel⟩, ⟨List.mem_of_getElem? (i := 58) (by decide +kernel), by decide +kernel⟩, ⟨by decide +kernel, by decide +kernel, by decide +kernel⟩, by decide⟩
theorem km_X5_habits : kMe mX5_habits 0 := ⟨⟨List.mem_of_getElem? (i := 677) (by decide +kernel), by decide +kernel⟩, ⟨List.mem_of_getElem? (i := 58) (by decide +kernel), by decide +kernel⟩, ⟨by decide +kernel, by decide +kernel, by decide +kernel⟩, by decide⟩
theorem km_X5_init : kMe mX5_init 0 := ⟨⟨List.mem_of_getElem? (i := 193) (by decide +kernel), by decide +kernel⟩, ⟨List.mem_of_getElem? (i := 58) (by decide +kernel), by decide +kernel⟩, ⟨by decide +kernel, by decide +kernel, by decide +kernel⟩, by decide⟩
theorem km_X5_leastOf : kMe mX5_leastOf 2 := ⟨⟨List.mem_of_getElem? (i := 484) (by decide +kernel), by decide +kernel⟩, ⟨List.mem_of_getElem? (i := 58) (by decide +kernel), by decide +kernel⟩, ⟨by decide +kernel, by decide +kernel, by decide +kernel⟩, by decide⟩
theorem km_X5_tell : kMe mX5_tell 2 := ⟨⟨List.mem_of_getElem? (i := 423) (by decide +kernel), by decide +kernel⟩, ⟨List.mem_of_getElem? (i := 58) (by decide +kernel), by decide +kernel⟩, ⟨by decide +kernel, by decide +kernel, by decide +kernel⟩, by decide⟩
theorem km_X6_anew : kMe mX6_anew 0 := ⟨⟨List.mem_of_getElem? (i := 539) (by decide +kernel), by decide +kernel⟩, ⟨List.mem_of_getElem? (i := 52) (by decide +kernel), by decide +kernel⟩, ⟨by decide +kernel, by decide +kernel, by decide +kernel⟩, by decide⟩
theorem km_X6_asHermit : kMe mX6_asHermit 1 := ⟨⟨List.mem_of_getElem? (i := 650) (by decide +kernel), by decide +kernel⟩, ⟨List.mem_of_getElem? (i := 52) (by decide +kernel), by decide +kernel⟩, ⟨by decide +kernel, by decide +kernel, by decide +kernel⟩, by decide⟩
theorem km_X6_asKnown : kMe mX6_asKnown 1 := ⟨⟨List.mem_of_getElem? (i := 640) (by decide +kernel), by decide +kernel⟩, ⟨List.mem_of_getElem? (i := 52) (by decide +kernel), by decide +kernel⟩, ⟨by decide +kernel, by decide +kernel, by decide +kernel⟩, by decide⟩
theorem km_X6_asMayor : kMe mX6_asMayor 1 := ⟨⟨List.mem_of_getElem? (i := 645) (by decide +kernel), by decide +kernel⟩, ⟨List.mem_of_getElem? (i := 52) (by decide +kernel), by decide +kernel⟩, ⟨by decide +kernel, by decide +kernel, by decide +kernel⟩, by decide⟩
theorem km_X6_asPerson : kMe mX6_asPerson 1 := ⟨⟨List.mem_of_getElem? (i := 631) (by decide +kernel), by decide +kernel⟩, ⟨List.mem_of_getElem? (i := 52) (by decide +kernel), by decide +kernel⟩, ⟨by decide +kernel, by decide +kernel, by decide +kernel⟩, by decide⟩
theorem km_X6_asShy : kMe mX6_asShy 1 := ⟨⟨List.mem_of_getElem? (i := 635) (by decide +kernel), by decide +kernel⟩, ⟨List.mem_of_getElem? (i := 52) (by decide +kernel), by decide +kernel⟩, ⟨by decide +kernel, by decide +kernel, by decide +kernel⟩, by decide⟩
theorem km_X6_asStranger : kMe mX6_asStranger 1 := ⟨⟨List.mem_of_getElem? (i := 655) (by decide +kernel), by decide +kernel⟩, ⟨List.mem_of_getElem? (i := 52) (by decide +kernel), by decide +kernel⟩, ⟨by decide +kernel, by decide +kernel, by decide +kernel⟩, by decide⟩
theorem km_X6_asks : kMe mX6_asks 2 := ⟨⟨List.mem_of_getElem? (i := 605) (by decide +kernel), by decide +kernel⟩, ⟨List.mem_of_getElem? (i := 52) (by decide +kernel), by decide +kernel⟩, ⟨by decide +kernel, by decide +kernel, by decide +kernel⟩, by decide⟩
theorem km_X6_at : kMe mX6_at 2 := ⟨⟨List.mem_of_getElem? (i := 242) (by decide +kernel), by decide +kernel⟩, ⟨List.mem_of_getElem? (i := 52) (by decide +kernel), by decide +kernel⟩, ⟨by decide +kernel, by decide +kernel, by decide +kernel⟩, by decide⟩
theorem km_X6_back : kMe mX6_back 1 := ⟨⟨List.mem_of_getElem? (i := 669) (by decide +kernel), by decide +kernel⟩, ⟨List.mem_of_getElem? (i := 52) (by decide +kernel), by decide +kernel⟩, ⟨by decide +kernel, by decide +kernel, by decide +kernel⟩, by decide⟩
theorem km_X6_brings : kMe mX6_brings 3 := ⟨⟨List.mem_of_getElem? (i := 573) (by decide +kernel), by decide +kernel⟩, ⟨List.mem_of_getElem? (i := 52) (by decide +kernel), by decide +kernel⟩, ⟨by decide +kernel, by decide +kernel, by decide +kernel⟩, by decide⟩
theorem km_X6_chosen : kMe mX6_chosen 0 := ⟨⟨List.mem_of_getElem? (i := 473) (by decide +kernel), by decide +kernel⟩, ⟨List.mem_of_getElem? (i := 52) (by decide +kernel), by decide +kernel⟩, ⟨by decide +kernel, by decide +kernel, by decide +kernel⟩, by decide⟩
theorem km_X6_clear : kMe mX6_clear 0 := ⟨⟨List.mem_of_getElem? (i := 297) (by decide +kernel), by decide +kernel⟩, ⟨List.mem_of_getElem? (i := 52) (by decide +kernel), by decide +kernel⟩, ⟨by decide +kernel, by decide +kernel, by decide +kernel⟩, by decide⟩
theorem km_X6_copy : kMe mX6_copy 2 := ⟨⟨List.mem_of_getElem? (i := 554) (by decide +kernel), by decide +kernel⟩, ⟨List.mem_of_getElem? (i := 52) (by decide +kernel), by decide +kernel⟩, ⟨by decide +kernel, by decide +kernel, by decide +kernel⟩, by decide⟩
theorem km_X6_count : kMe mX6_count 1 := ⟨⟨List.mem_of_getElem? (i := 673) (by decide +kernel), by decide +kernel⟩, ⟨List.mem_of_getElem? (i := 52) (by decide +kernel), by decide +kernel⟩, ⟨by decide +kernel, by decide +kernel, by decide +kernel⟩, by decide⟩
theorem km_X6_days : kMe mX6_days 4 := ⟨⟨List.mem_of_getElem? (i := 593) (by decide +kernel), by decide +kernel⟩, ⟨List.mem_of_getElem? (i := 52) (by decide +kernel), by decide +kernel⟩, ⟨by decide +kernel, by decide +kernel, by decide +kernel⟩, by decide⟩
theorem km_X6_fill : kMe mX6_fill 2 := ⟨⟨List.mem_of_getElem? (i := 201) (by decide +kernel), by decide +kernel⟩, ⟨List.mem_of_getElem? (i := 52) (by decide +kernel), by decide +kernel⟩, ⟨by decide +kernel, by decide +kernel, by decide +kernel⟩, by decide⟩
theorem km_X6_go : kMe mX6_go 1 := ⟨⟨List.mem_of_getElem? (i := 509) (by decide +kernel), by decide +kernel⟩, ⟨List.mem_of_getElem? (i := 52) (by decide +kernel), by decide +kernel⟩, ⟨by decide +kernel, by decide +kernel, by decide +kernel⟩, by decide⟩
theorem km_X6_imageOf : kMe mX6_imageOf 1 := ⟨⟨List.mem_of_getElem? (i := 664) (by decide +kernel), by decide +kernel⟩, ⟨List.mem_of_getElem? (i := 52) (by decide +kernel), by decide +kernel⟩, ⟨by decide +kernel, by decide +kernel, by decide +kernel⟩, by decide⟩
theorem km_X6_init : kMe mX6_init 0 := ⟨⟨List.mem_of_getElem? (i := 70) (by decide +kernel), by decide +kernel⟩, ⟨List.mem_of_getElem? (i := 52) (by decide +kernel), by decide +kernel⟩, ⟨by decide +kernel, by decide +kernel, by decide +kernel⟩, by decide⟩
theorem km_X6_introduce : kMe mX6_introduce 3 := ⟨⟨List.mem_of_getElem? (i := 500) (by decide +kernel), by decide +kernel⟩, ⟨List.mem_of_getElem? (i := 52) (by decide +kernel), by decide +kernel⟩, ⟨by decide +kernel, by decide +kernel, by decide +kernel⟩, by decide⟩
theorem km_X6_isChoice : kMe mX6_isChoice 1 := ⟨⟨List.mem_of_getElem? (i := 576) (by decide +kernel), by decide +kernel⟩, ⟨List.mem_of_getElem? (i := 52) (by decide +kernel), by decide +kernel⟩, ⟨by decide +kernel, by decide +kernel, by decide +kernel⟩, by decide⟩
theorem km_X6_isPair : kMe mX6_isPair 2 := ⟨⟨List.mem_of_getElem? (i := 434) (by decide +kernel), by decide +kernel⟩, ⟨List.mem_of_getElem? (i := 52) (by decide +kernel), by decide +kernel⟩, ⟨by decide +kernel, by decide +kernel, by decide +kernel⟩, by decide⟩
theorem km_X6_isPerson : kMe mX6_isPerson 1 := ⟨⟨List.mem_of_getElem? (i := 438) (by decide +kernel), by decide +kernel⟩, ⟨List.mem_of_getElem? (i := 52) (by decide +kernel), by decide +kernel⟩, ⟨by decide +kernel, by decide +kernel, by decide +kernel⟩, by decide⟩
theorem km_X6_keep : kMe mX6_keep 1 := ⟨⟨List.mem_of_getElem? (i := 660) (by decide +kernel), by decide +kernel⟩, ⟨List.mem_of_getElem? (i := 52) (by decide +kernel), by decide +kernel⟩, ⟨by decide +kernel, by decide +kernel, by decide +kernel⟩, by decide⟩
theorem km_X6_knows : kMe mX6_knows 2 := ⟨⟨List.mem_of_getElem? (i := 430) (by decide +kernel), by decide +kernel⟩, ⟨List.mem_of_getElem? (i := 52) (by decide +kernel), by decide +kernel⟩, ⟨by decide +kernel, by decide +kernel, by decide +kernel⟩, by decide⟩
theorem km_X6_law : kMe mX6_law 1 := ⟨⟨List.mem_of_getElem? (i := 465) (by decide +kernel), by decide +kernel⟩, ⟨List.mem_of_getElem? (i := 52) (by decide +kernel), by decide +kernel⟩, ⟨by decide +kernel, by decide +kernel, by decide +kernel⟩, by decide⟩
theorem km_X6_meet : kMe mX6_meet 2 := ⟨⟨List.mem_of_getElem? (i := 492) (by decide +kernel), by decide +kernel⟩, ⟨List.mem_of_getElem? (i := 52) (by decide +kernel), by decide +kernel⟩, ⟨by decide +kernel, by decide +kernel, by decide +kernel⟩, by decide⟩
theorem km_X6_moves : kMe mX6_moves 1 := ⟨⟨List.mem_of_getElem? (i := 504) (by decide +kernel), by decide +kernel⟩, ⟨List.mem_of_getElem? (i := 52) (by decide +kernel), by decide +kernel⟩, ⟨by decide +kernel, by decide +kernel, by decide +kernel⟩, by decide⟩
theorem km_X6_now : kMe mX6_now 1 := ⟨⟨List.mem_of_getElem? (i := 531) (by decide +kernel), by decide +kernel⟩, ⟨List.mem_of_getElem? (i := 52) (by decide +kernel), by decide +kernel⟩, ⟨by decide +kernel, by decide +kernel, by decide +kernel⟩, by decide⟩
theorem km_X6_parties : kMe mX6_parties 1 := ⟨⟨List.mem_of_getElem? (i := 622) (by decide +kernel), by decide +kernel⟩, ⟨List.mem_of_getElem? (i := 52) (by decide +kernel), by decide +kernel⟩, ⟨by decide +kernel, by decide +kernel, by decide +kernel⟩, by decide⟩
theorem km_X6_party : kMe mX6_party 1 := ⟨⟨List.mem_of_getElem? (i := 613) (by decide +kernel), by decide +kernel⟩, ⟨List.mem_of_getElem? (i := 52) (by decide +kernel), by decide +kernel⟩, ⟨by decide +kernel, by decide +kernel, by decide +kernel⟩, by decide⟩
theorem km_X6_person : kMe mX6_person 2 := ⟨⟨List.mem_of_getElem? (i := 455) (by decide +kernel), by decide +kernel⟩, ⟨List.mem_of_getElem? (i := 52) (by decide +kernel), by decide +kernel⟩, ⟨by decide +kernel, by decide +kernel, by decide +kernel⟩, by decide⟩
theorem km_X6_put : kMe mX6_put 3 := ⟨⟨List.mem_of_getElem? (i := 249) (by decide +kernel), by decide +kernel⟩, ⟨List.mem_of_getElem? (i := 52) (by decide +kernel), by decide +kernel⟩, ⟨by decide +kernel, by decide +kernel, by decide +kernel⟩, by decide⟩
theorem km_X6_rate : kMe mX6_rate 2 := ⟨⟨List.mem_of_getElem? (i := 627) (by decide +kernel), by decide +kernel⟩, ⟨List.mem_of_getElem? (i := 52) (by decide +kernel), by decide +kernel⟩, ⟨by decide +kernel, by decide +kernel, by decide +kernel⟩, by decide⟩
theorem km_X6_reigns : kMe mX6_reigns 1 := ⟨⟨List.mem_of_getElem? (i := 543) (by decide +kernel), by decide +kernel⟩, ⟨List.mem_of_getElem? (i := 52) (by decide +kernel), by decide +kernel⟩, ⟨by decide +kernel, by decide +kernel, by decide +kernel⟩, by decide⟩
theorem km_X6_ring : kMe mX6_ring 0 := ⟨⟨List.mem_of_getElem? (i := 559) (by decide +kernel), by decide +kernel⟩, ⟨List.mem_of_getElem? (i := 52) (by decide +kernel), by decide +kernel⟩, ⟨by decide +kernel, by decide +kernel, by decide +kernel⟩, by decide⟩
theorem km_X6_rules : kMe mX6_rules 2 := ⟨⟨List.mem_of_getElem? (i := 469) (by decide +kernel), by decide +kernel⟩, ⟨List.mem_of_getElem? (i := 52) (by decide +kernel), by decide +kernel⟩, ⟨by decide +kernel, by decide +kernel, by decide +kernel⟩, by decide⟩
theorem km_X6_seen : kMe mX6_seen 2 := ⟨⟨List.mem_of_getElem? (i := 446) (by decide +kernel), by decide +kernel⟩, ⟨List.mem_of_getElem? (i := 52) (by decide +kernel), by decide +kernel⟩, ⟨by decide +kernel, by decide +kernel, by decide +kernel⟩, by decide⟩
theorem km_X6_town : kMe mX6_town 0 := ⟨⟨List.mem_of_getElem? (i := 301) (by decide +kernel), by decide +kernel⟩, ⟨List.mem_of_getElem? (i := 52) (by decide +kernel), by decide +kernel⟩, ⟨by decide +kernel, by decide +kernel, by decide +kernel⟩, by decide⟩
theorem km_X6_trace : kMe mX6_trace 0 := ⟨⟨List.mem_of_getElem? (i := 681) (by decide +kernel), by decide +kernel⟩, ⟨List.mem_of_getElem? (i := 52) (by decide +kernel), by decide +kernel⟩, ⟨by decide +kernel, by decide +kernel, by decide +kernel⟩, by decide⟩
theorem km_X6_type : kMe mX6_type 2 := ⟨⟨List.mem_of_getElem? (i := 288) (by decide +kernel), by decide +kernel⟩, ⟨List.mem_of_getElem? (i := 52) (by decide +kernel), by decide +kernel⟩, ⟨by decide +kernel, by decide +kernel, by decide +kernel⟩, by decide⟩
theorem km_X7_acts : kMe mX7_acts 3 := ⟨⟨List.mem_of_getElem? (i := 982) (by decide +kernel), by decide +kernel⟩, ⟨List.mem_of_getElem? (i := 60) (by decide +kernel), by decide +kernel⟩, ⟨by decide +kernel, by decide +kernel, by decide +kernel⟩, by decide⟩
theorem km_X7_add : kMe mX7_add 2 := ⟨⟨List.mem_of_getElem? (i := 807) (by decide +kernel), by decide +kernel⟩, ⟨List.mem_of_getElem? (i := 60) (by decide +kernel), by decide +kernel⟩, ⟨by decide +kernel, by decide +kernel, by decide +kernel⟩, by decide⟩
theorem km_X7_advances : kMe mX7_advances 0 := ⟨⟨List.mem_of_getElem? (i := 800) (by decide +kernel), by decide +kernel⟩, ⟨List.mem_of_getElem? (i := 60) (by decide +kernel), by decide +kernel⟩, ⟨by decide +kernel, by decide +kernel, by decide +kernel⟩, by decide⟩
theorem km_X7_anew : kMe mX7_anew 0 := ⟨⟨List.mem_of_getElem? (i := 922) (by decide +kernel), by decide +kernel⟩, ⟨List.mem_of_getElem? (i := 60) (by decide +kernel), by decide +kernel⟩, ⟨by decide +kernel, by decide +kernel, by decide +kernel⟩, by decide⟩
theorem km_X7_areTwo : kMe mX7_areTwo 2 := ⟨⟨List.mem_of_getElem? (i := 842) (by decide +kernel), by decide +kernel⟩, ⟨List.mem_of_getElem? (i := 60) (by decide +kernel), by decide +kernel⟩, ⟨by decide +kernel, by decide +kernel, by decide +kernel⟩, by decide⟩
theorem km_X7_aside : kMe mX7_aside 1 := ⟨⟨List.mem_of_getElem? (i := 930) (by decide +kernel), by decide +kernel⟩, ⟨List.mem_of_getElem? (i := 60) (by decide +kernel), by decide +kernel⟩, ⟨by decide +kernel, by decide +kernel, by decide +kernel⟩, by decide⟩
theorem km_X7_asideOf : kMe mX7_asideOf 2 := ⟨⟨List.mem_of_getElem? (i := 974) (by decide +kernel), by decide +kernel⟩, ⟨List.mem_of_getElem? (i := 60) (by decide +kernel), by decide +kernel⟩, ⟨by decide +kernel, by decide +kernel, by decide +kernel⟩, by decide⟩
theorem km_X7_asks : kMe mX7_asks 2 := ⟨⟨List.mem_of_getElem? (i := 986) (by decide +kernel), by decide +kernel⟩, ⟨List.mem_of_getElem? (i := 60) (by decide +kernel), by decide +kernel⟩, ⟨by decide +kernel, by decide +kernel, by decide +kernel⟩, by decide⟩
theorem km_X7_back : kMe mX7_back 1 := ⟨⟨List.mem_of_getElem? (i := 1015) (by decide +kernel), by decide +kernel⟩, ⟨List.mem_of_getElem? (i := 60) (by decide +kernel), by decide +kernel⟩, ⟨by decide +kernel, by decide +kernel, by decide +kernel⟩, by decide⟩
theorem km_X7_begins : kMe mX7_begins 0 := ⟨⟨List.mem_of_getElem? (i := 691) (by decide +kernel), by decide +kernel⟩, ⟨List.mem_of_getElem? (i := 60) (by decide +kernel), by decide +kernel⟩, ⟨by decide +kernel, by decide +kernel, by decide +kernel⟩, by decide⟩
theorem km_X7_brings : kMe mX7_brings 3 := ⟨⟨List.mem_of_getElem? (i := 938) (by decide +kernel), by decide +kernel⟩, ⟨List.mem_of_getElem? (i := 60) (by decide +kernel), by decide +kernel⟩, ⟨by decide +kernel, by decide +kernel, by decide +kernel⟩, by decide⟩
theorem km_X7_bringsBy : kMe mX7_bringsBy 3 := ⟨⟨List.mem_of_getElem? (i := 942) (by decide +kernel), by decide +kernel⟩, ⟨List.mem_of_getElem? (i := 60) (by decide +kernel), by decide +kernel⟩, ⟨by decide +kernel, by decide +kernel, by decide +kernel⟩, by decide⟩
theorem km_X7_byteAt : kMe mX7_byteAt 1 := ⟨⟨List.mem_of_getElem? (i := 804) (by decide +kernel), by decide +kernel⟩, ⟨List.mem_of_getElem? (i := 60) (by decide +kernel), by decide +kernel⟩, ⟨by decide +kernel, by decide +kernel, by decide +kernel⟩, by decide⟩
theorem km_X7_chosen : kMe mX7_chosen 0 := ⟨⟨List.mem_of_getElem? (i := 878) (by decide +kernel), by decide +kernel⟩, ⟨List.mem_of_getElem? (i := 60) (by decide +kernel), by decide +kernel⟩, ⟨by decide +kernel, by decide +kernel, by decide +kernel⟩, by decide⟩
theorem km_X7_chosenNow : kMe mX7_chosenNow 0 := ⟨⟨List.mem_of_getElem? (i := 882) (by decide +kernel), by decide +kernel⟩, ⟨List.mem_of_getElem? (i := 60) (by decide +kernel), by decide +kernel⟩, ⟨by decide +kernel, by decide +kernel, by decide +kernel⟩, by decide⟩
theorem km_X7_clear : kMe mX7_clear 0 := ⟨⟨List.mem_of_getElem? (i := 792) (by decide +kernel), by decide +kernel⟩, ⟨List.mem_of_getElem? (i := 60) (by decide +kernel), by decide +kernel⟩, ⟨by decide +kernel, by decide +kernel, by decide +kernel⟩, by decide⟩
theorem km_X7_count : kMe mX7_count 1 := ⟨⟨List.mem_of_getElem? (i := 1019) (by decide +kernel), by decide +kernel⟩, ⟨List.mem_of_getElem? (i := 60) (by decide +kernel), by decide +kernel⟩, ⟨by decide +kernel, by decide +kernel, by decide +kernel⟩, by decide⟩
theorem km_X7_countAll : kMe mX7_countAll 0 := ⟨⟨List.mem_of_getElem? (i := 918) (by decide +kernel), by decide +kernel⟩, ⟨List.mem_of_getElem? (i := 60) (by decide +kernel), by decide +kernel⟩, ⟨by decide +kernel, by decide +kernel, by decide +kernel⟩, by decide⟩
theorem km_X7_countOf : kMe mX7_countOf 1 := ⟨⟨List.mem_of_getElem? (i := 863) (by decide +kernel), by decide +kernel⟩, ⟨List.mem_of_getElem? (i := 60) (by decide +kernel), by decide +kernel⟩, ⟨by decide +kernel, by decide +kernel, by decide +kernel⟩, by decide⟩
theorem km_X7_days : kMe mX7_days 4 := ⟨⟨List.mem_of_getElem? (i := 958) (by decide +kernel), by decide +kernel⟩, ⟨List.mem_of_getElem? (i := 60) (by decide +kernel), by decide +kernel⟩, ⟨by decide +kernel, by decide +kernel, by decide +kernel⟩, by decide⟩
theorem km_X7_firstDay : kMe mX7_firstDay 3 := ⟨⟨List.mem_of_getElem? (i := 962) (by decide +kernel), by decide +kernel⟩, ⟨List.mem_of_getElem? (i := 60) (by decide +kernel), by decide +kernel⟩, ⟨by decide +kernel, by decide +kernel, by decide +kernel⟩, by decide⟩
theorem km_X7_go : kMe mX7_go 1 := ⟨⟨List.mem_of_getElem? (i := 906) (by decide +kernel), by decide +kernel⟩, ⟨List.mem_of_getElem? (i := 60) (by decide +kernel), by decide +kernel⟩, ⟨by decide +kernel, by decide +kernel, by decide +kernel⟩, by decide⟩
theorem km_X7_in : kMe mX7_in 3 := ⟨⟨List.mem_of_getElem? (i := 787) (by decide +kernel), by decide +kernel⟩, ⟨List.mem_of_getElem? (i := 60) (by decide +kernel), by decide +kernel⟩, ⟨by decide +kernel, by decide +kernel, by decide +kernel⟩, by decide⟩
theorem km_X7_init : kMe mX7_init 0 := ⟨⟨List.mem_of_getElem? (i := 686) (by decide +kernel), by decide +kernel⟩, ⟨List.mem_of_getElem? (i := 60) (by decide +kernel), by decide +kernel⟩, ⟨by decide +kernel, by decide +kernel, by decide +kernel⟩, by decide⟩
theorem km_X7_introduce : kMe mX7_introduce 3 := ⟨⟨List.mem_of_getElem? (i := 898) (by decide +kernel), by decide +kernel⟩, ⟨List.mem_of_getElem? (i := 60) (by decide +kernel), by decide +kernel⟩, ⟨by decide +kernel, by decide +kernel, by decide +kernel⟩, by decide⟩
theorem km_X7_isKnown : kMe mX7_isKnown 2 := ⟨⟨List.mem_of_getElem? (i := 850) (by decide +kernel), by decide +kernel⟩, ⟨List.mem_of_getElem? (i := 60) (by decide +kernel), by decide +kernel⟩, ⟨by decide +kernel, by decide +kernel, by decide +kernel⟩, by decide⟩
theorem km_X7_isParty : kMe mX7_isParty 1 := ⟨⟨List.mem_of_getElem? (i := 994) (by decide +kernel), by decide +kernel⟩, ⟨List.mem_of_getElem? (i := 60) (by decide +kernel), by decide +kernel⟩, ⟨by decide +kernel, by decide +kernel, by decide +kernel⟩, by decide⟩
theorem km_X7_isPerson : kMe mX7_isPerson 1 := ⟨⟨List.mem_of_getElem? (i := 846) (by decide +kernel), by decide +kernel⟩, ⟨List.mem_of_getElem? (i := 60) (by decide +kernel), by decide +kernel⟩, ⟨by decide +kernel, by decide +kernel, by decide +kernel⟩, by decide⟩
theorem km_X7_isSo : kMe mX7_isSo 2 := ⟨⟨List.mem_of_getElem? (i := 954) (by decide +kernel), by decide +kernel⟩, ⟨List.mem_of_getElem? (i := 60) (by decide +kernel), by decide +kernel⟩, ⟨by decide +kernel, by decide +kernel, by decide +kernel⟩, by decide⟩
theorem km_X7_isWell : kMe mX7_isWell 0 := ⟨⟨List.mem_of_getElem? (i := 818) (by decide +kernel), by decide +kernel⟩, ⟨List.mem_of_getElem? (i := 60) (by decide +kernel), by decide +kernel⟩, ⟨by decide +kernel, by decide +kernel, by decide +kernel⟩, by decide⟩
theorem km_X7_keep : kMe mX7_keep 1 := ⟨⟨List.mem_of_getElem? (i := 1011) (by decide +kernel), by decide +kernel⟩, ⟨List.mem_of_getElem? (i := 60) (by decide +kernel), by decide +kernel⟩, ⟨by decide +kernel, by decide +kernel, by decide +kernel⟩, by decide⟩
theorem km_X7_knows : kMe mX7_knows 2 := ⟨⟨List.mem_of_getElem? (i := 838) (by decide +kernel), by decide +kernel⟩, ⟨List.mem_of_getElem? (i := 60) (by decide +kernel), by decide +kernel⟩, ⟨by decide +kernel, by decide +kernel, by decide +kernel⟩, by decide⟩
theorem km_X7_lastButOne : kMe mX7_lastButOne 4 := ⟨⟨List.mem_of_getElem? (i := 966) (by decide +kernel), by decide +kernel⟩, ⟨List.mem_of_getElem? (i := 60) (by decide +kernel), by decide +kernel⟩, ⟨by decide +kernel, by decide +kernel, by decide +kernel⟩, by decide⟩
theorem km_X7_lastDay : kMe mX7_lastDay 3 := ⟨⟨List.mem_of_getElem? (i := 970) (by decide +kernel), by decide +kernel⟩, ⟨List.mem_of_getElem? (i := 60) (by decide +kernel), by decide +kernel⟩, ⟨by decide +kernel, by decide +kernel, by decide +kernel⟩, by decide⟩
theorem km_X7_law : kMe mX7_law 1 := ⟨⟨List.mem_of_getElem? (i := 870) (by decide +kernel), by decide +kernel⟩, ⟨List.mem_of_getElem? (i := 60) (by decide +kernel), by decide +kernel⟩, ⟨by decide +kernel, by decide +kernel, by decide +kernel⟩, by decide⟩
theorem km_X7_learns : kMe mX7_learns 2 := ⟨⟨List.mem_of_getElem? (i := 894) (by decide +kernel), by decide +kernel⟩, ⟨List.mem_of_getElem? (i := 60) (by decide +kernel), by decide +kernel⟩, ⟨by decide +kernel, by decide +kernel, by decide +kernel⟩, by decide⟩
theorem km_X7_leastOf : kMe mX7_leastOf 1 := ⟨⟨List.mem_of_getElem? (i := 886) (by decide +kernel), by decide +kernel⟩, ⟨List.mem_of_getElem? (i := 60) (by decide +kernel), by decide +kernel⟩, ⟨by decide +kernel, by decide +kernel, by decide +kernel⟩, by decide⟩
theorem km_X7_meet : kMe mX7_meet 2 := ⟨⟨List.mem_of_getElem? (i := 890) (by decide +kernel), by decide +kernel⟩, ⟨List.mem_of_getElem? (i := 60) (by decide +kernel), by decide +kernel⟩, ⟨by decide +kernel, by decide +kernel, by decide +kernel⟩, by decide⟩
theorem km_X7_meets : kMe mX7_meets 1 := ⟨⟨List.mem_of_getElem? (i := 950) (by decide +kernel), by decide +kernel⟩, ⟨List.mem_of_getElem? (i := 60) (by decide +kernel), by decide +kernel⟩, ⟨by decide +kernel, by decide +kernel, by decide +kernel⟩, by decide⟩
theorem km_X7_moves : kMe mX7_moves 1 := ⟨⟨List.mem_of_getElem? (i := 902) (by decide +kernel), by decide +kernel⟩, ⟨List.mem_of_getElem? (i := 60) (by decide +kernel), by decide +kernel⟩, ⟨by decide +kernel, by decide +kernel, by decide +kernel⟩, by decide⟩
theorem km_X7_named : kMe mX7_named 6 := ⟨⟨List.mem_of_getElem? (i := 814) (by decide +kernel), by decide +kernel⟩, ⟨List.mem_of_getElem? (i := 60) (by decide +kernel), by decide +kernel⟩, ⟨by decide +kernel, by decide +kernel, by decide +kernel⟩, by decide⟩
theorem km_X7_nextPair : kMe mX7_nextPair 1 := ⟨⟨List.mem_of_getElem? (i := 946) (by decide +kernel), by decide +kernel⟩, ⟨List.mem_of_getElem? (i := 60) (by decide +kernel), by decide +kernel⟩, ⟨by decide +kernel, by decide +kernel, by decide +kernel⟩, by decide⟩
theorem km_X7_now : kMe mX7_now 1 := ⟨⟨List.mem_of_getElem? (i := 914) (by decide +kernel), by decide +kernel⟩, ⟨List.mem_of_getElem? (i := 60) (by decide +kernel), by decide +kernel⟩, ⟨by decide +kernel, by decide +kernel, by decide +kernel⟩, by decide⟩
theorem km_X7_number : kMe mX7_number 2 := ⟨⟨List.mem_of_getElem? (i := 830) (by decide +kernel), by decide +kernel⟩, ⟨List.mem_of_getElem? (i := 60) (by decide +kernel), by decide +kernel⟩, ⟨by decide +kernel, by decide +kernel, by decide +kernel⟩, by decide⟩
theorem km_X7_ones : kMe mX7_ones 1 := ⟨⟨List.mem_of_getElem? (i := 866) (by decide +kernel), by decide +kernel⟩, ⟨List.mem_of_getElem? (i := 60) (by decide +kernel), by decide +kernel⟩, ⟨by decide +kernel, by decide +kernel, by decide +kernel⟩, by decide⟩
theorem km_X7_parties : kMe mX7_parties 1 := ⟨⟨List.mem_of_getElem? (i := 998) (by decide +kernel), by decide +kernel⟩, ⟨List.mem_of_getElem? (i := 60) (by decide +kernel), by decide +kernel⟩, ⟨by decide +kernel, by decide +kernel, by decide +kernel⟩, by decide⟩
theorem km_X7_party : kMe mX7_party 1 := ⟨⟨List.mem_of_getElem? (i := 990) (by decide +kernel), by decide +kernel⟩, ⟨List.mem_of_getElem? (i := 60) (by decide +kernel), by decide +kernel⟩, ⟨by decide +kernel, by decide +kernel, by decide +kernel⟩, by decide⟩
theorem km_X7_person : kMe mX7_person 2 := ⟨⟨List.mem_of_getElem? (i := 859) (by decide +kernel), by decide +kernel⟩, ⟨List.mem_of_getElem? (i := 60) (by decide +kernel), by decide +kernel⟩, ⟨by decide +kernel, by decide +kernel, by decide +kernel⟩, by decide⟩
theorem km_X7_rate : kMe mX7_rate 2 := ⟨⟨List.mem_of_getElem? (i := 1002) (by decide +kernel), by decide +kernel⟩, ⟨List.mem_of_getElem? (i := 60) (by decide +kernel), by decide +kernel⟩, ⟨by decide +kernel, by decide +kernel, by decide +kernel⟩, by decide⟩
theorem km_X7_readsItem : kMe mX7_readsItem 1 := ⟨⟨List.mem_of_getElem? (i := 826) (by decide +kernel), by decide +kernel⟩, ⟨List.mem_of_getElem? (i := 60) (by decide +kernel), by decide +kernel⟩, ⟨by decide +kernel, by decide +kernel, by decide +kernel⟩, by decide⟩
theorem km_X7_readsTwo : kMe mX7_readsTwo 1 := ⟨⟨List.mem_of_getElem? (i := 834) (by decide +kernel), by decide +kernel⟩, ⟨List.mem_of_getElem? (i := 60) (by decide +kernel), by decide +kernel⟩, ⟨by decide +kernel, by decide +kernel, by decide +kernel⟩, by decide⟩
theorem km_X7_reigns : kMe mX7_reigns 1 := ⟨⟨List.mem_of_getElem? (i := 926) (by decide +kernel), by decide +kernel⟩, ⟨List.mem_of_getElem? (i := 60) (by decide +kernel), by decide +kernel⟩, ⟨by decide +kernel, by decide +kernel, by decide +kernel⟩, by decide⟩
theorem km_X7_ring : kMe mX7_ring 0 := ⟨⟨List.mem_of_getElem? (i := 934) (by decide +kernel), by decide +kernel⟩, ⟨List.mem_of_getElem? (i := 60) (by decide +kernel), by decide +kernel⟩, ⟨by decide +kernel, by decide +kernel, by decide +kernel⟩, by decide⟩
theorem km_X7_rules : kMe mX7_rules 2 := ⟨⟨List.mem_of_getElem? (i := 874) (by decide +kernel), by decide +kernel⟩, ⟨List.mem_of_getElem? (i := 60) (by decide +kernel), by decide +kernel⟩, ⟨by decide +kernel, by decide +kernel, by decide +kernel⟩, by decide⟩
theorem km_X7_seen : kMe mX7_seen 2 := ⟨⟨List.mem_of_getElem? (i := 854) (by decide +kernel), by decide +kernel⟩, ⟨List.mem_of_getElem? (i := 60) (by decide +kernel), by decide +kernel⟩, ⟨by decide +kernel, by decide +kernel, by decide +kernel⟩, by decide⟩
theorem km_X7_springs : kMe mX7_springs 0 := ⟨⟨List.mem_of_getElem? (i := 910) (by decide +kernel), by decide +kernel⟩, ⟨List.mem_of_getElem? (i := 60) (by decide +kernel), by decide +kernel⟩, ⟨by decide +kernel, by decide +kernel, by decide +kernel⟩, by decide⟩
theorem km_X7_takes : kMe mX7_takes 1 := ⟨⟨List.mem_of_getElem? (i := 822) (by decide +kernel), by decide +kernel⟩, ⟨List.mem_of_getElem? (i := 60) (by decide +kernel), by decide +kernel⟩, ⟨by decide +kernel, by decide +kernel, by decide +kernel⟩, by decide⟩
theorem km_X7_town : kMe mX7_town 0 := ⟨⟨List.mem_of_getElem? (i := 796) (by decide +kernel), by decide +kernel⟩, ⟨List.mem_of_getElem? (i := 60) (by decide +kernel), by decide +kernel⟩, ⟨by decide +kernel, by decide +kernel, by decide +kernel⟩, by decide⟩
theorem km_X7_trace : kMe mX7_trace 0 := ⟨⟨List.mem_of_getElem? (i := 1023) (by decide +kernel), by decide +kernel⟩, ⟨List.mem_of_getElem? (i := 60) (by decide +kernel), by decide +kernel⟩, ⟨by decide +kernel, by decide +kernel, by decide +kernel⟩, by decide⟩
theorem km_X7_type : kMe mX7_type 2 := ⟨⟨List.mem_of_getElem? (i := 784) (by decide +kernel), by decide +kernel⟩, ⟨List.mem_of_getElem? (i := 60) (by decide +kernel), by decide +kernel⟩, ⟨by decide +kernel, by decide +kernel, by decide +kernel⟩, by decide⟩
theorem km_X7_whoOf : kMe mX7_whoOf 2 := ⟨⟨List.mem_of_getElem? (i := 978) (by decide +kernel), by decide +kernel⟩, ⟨List.mem_of_getElem? (i := 60) (by decide +kernel), by decide +kernel⟩, ⟨by decide +kernel, by decide +kernel, by decide +kernel⟩, by decide⟩
theorem km_X7_wordOf : kMe mX7_wordOf 1 := ⟨⟨List.mem_of_getElem? (i := 811) (by decide +kernel), by decide +kernel⟩, ⟨List.mem_of_getElem? (i := 60) (by decide +kernel), by decide +kernel⟩, ⟨by decide +kernel, by decide +kernel, by decide +kernel⟩, by decide⟩
theorem kw_intArray : kW (Cond.arrayClass .int) := ⟨List.mem_of_getElem? (i := 89) (by decide +kernel), by decide +kernel⟩
theorem kw_boolArray : kW (Cond.arrayClass .boolean) := ⟨List.mem_of_getElem? (i := 780) (by decide +kernel), by decide +kernel⟩
theorem kl_J6_265 : kW (Cond.constant RJ6 265 (1431655765)) := ⟨List.mem_of_getElem? (i := 253) (by decide +kernel), by decide +kernel⟩
theorem kl_J6_266 : kW (Cond.constant RJ6 266 (858993459)) := ⟨List.mem_of_getElem? (i := 254) (by decide +kernel), by decide +kernel⟩
theorem kl_J6_267 : kW (Cond.constant RJ6 267 (252645135)) := ⟨List.mem_of_getElem? (i := 255) (by decide +kernel), by decide +kernel⟩
theorem kn_L_7 : kNew RL 7 6 9 [.null, .null, .null, .null, .null, .null, .null, .null, .long 0] := ⟨_, _, _, kcl_6, ⟨List.mem_of_getElem? (i := 66) (by decide +kernel), by decide +kernel⟩, ⟨List.mem_of_getElem? (i := 67) (by decide +kernel), by decide +kernel⟩, ⟨List.mem_of_getElem? (i := 52) (by decide +kernel), by decide +kernel⟩, by decide +kernel⟩
theorem kc_L_9 : kCI RL 9 mX6_init 0 := ⟨km_X6_init, ⟨List.mem_of_getElem? (i := 68) (by decide +kernel), by decide +kernel⟩, ⟨List.mem_of_getElem? (i := 69) (by decide +kernel), by decide +kernel⟩, rfl, rfl⟩
theorem kn_L_10 : kNew RL 10 7 29 [.int 0, .long 0, .null, .int 0, .int 0, .int 0, .int 0, .int 0, .int 0, .null, .null, .int 0, .int 0, .int 0, .int 0, .int 0, .int 0, .int 0, .int 0, .int 0, .int 0, .null, .null, .null, .null, .null, .null, .null, .null] := ⟨_, _, _, kcl_7, ⟨List.mem_of_getElem? (i := 682) (by decide +kernel), by decide +kernel⟩, ⟨List.mem_of_getElem? (i := 683) (by decide +kernel), by decide +kernel⟩, ⟨List.mem_of_getElem? (i := 60) (by decide +kernel), by decide +kernel⟩, by decide +kernel⟩
theorem kc_L_12 : kCI RL 12 mX7_init 0 := ⟨km_X7_init, ⟨List.mem_of_getElem? (i := 684) (by decide +kernel), by decide +kernel⟩, ⟨List.mem_of_getElem? (i := 685) (by decide +kernel), by decide +kernel⟩, rfl, rfl⟩
theorem kl_L_13 : kW (Cond.constantLong RL 13 (4294967295)) := ⟨List.mem_of_getElem? (i := 1024) (by decide +kernel), by decide +kernel⟩
theorem kc_L_15 : kCV RL 15 mX6_type 2 := ⟨km_X6_type, ⟨List.mem_of_getElem? (i := 285) (by decide +kernel), by decide +kernel⟩, ⟨List.mem_of_getElem? (i := 286) (by decide +kernel), by decide +kernel⟩, ⟨List.mem_of_getElem? (i := 287) (by decide +kernel), by decide +kernel⟩⟩
theorem kc_L_19 : kCV RL 19 mX7_type 2 := ⟨km_X7_type, ⟨List.mem_of_getElem? (i := 781) (by decide +kernel), by decide +kernel⟩, ⟨List.mem_of_getElem? (i := 782) (by decide +kernel), by decide +kernel⟩, ⟨List.mem_of_getElem? (i := 783) (by decide +kernel), by decide +kernel⟩⟩
theorem kc_L_20 : kCV RL 20 mX6_clear 0 := ⟨km_X6_clear, ⟨List.mem_of_getElem? (i := 294) (by decide +kernel), by decide +kernel⟩, ⟨List.mem_of_getElem? (i := 295) (by decide +kernel), by decide +kernel⟩, ⟨List.mem_of_getElem? (i := 296) (by decide +kernel), by decide +kernel⟩⟩
theorem kc_L_24 : kCV RL 24 mX7_clear 0 := ⟨km_X7_clear, ⟨List.mem_of_getElem? (i := 789) (by decide +kernel), by decide +kernel⟩, ⟨List.mem_of_getElem? (i := 790) (by decide +kernel), by decide +kernel⟩, ⟨List.mem_of_getElem? (i := 791) (by decide +kernel), by decide +kernel⟩⟩
theorem kc_L_25 : kCV RL 25 mX6_town 0 := ⟨km_X6_town, ⟨List.mem_of_getElem? (i := 298) (by decide +kernel), by decide +kernel⟩, ⟨List.mem_of_getElem? (i := 299) (by decide +kernel), by decide +kernel⟩, ⟨List.mem_of_getElem? (i := 300) (by decide +kernel), by decide +kernel⟩⟩
theorem kc_L_28 : kCV RL 28 mX7_town 0 := ⟨km_X7_town, ⟨List.mem_of_getElem? (i := 793) (by decide +kernel), by decide +kernel⟩, ⟨List.mem_of_getElem? (i := 794) (by decide +kernel), by decide +kernel⟩, ⟨List.mem_of_getElem? (i := 795) (by decide +kernel), by decide +kernel⟩⟩
theorem kc_L_29 : kCV RL 29 mX6_knows 2 := ⟨km_X6_knows, ⟨List.mem_of_getElem? (i := 427) (by decide +kernel), by decide +kernel⟩, ⟨List.mem_of_getElem? (i := 428) (by decide +kernel), by decide +kernel⟩, ⟨List.mem_of_getElem? (i := 429) (by decide +kernel), by decide +kernel⟩⟩
theorem kc_L_33 : kCV RL 33 mX7_knows 2 := ⟨km_X7_knows, ⟨List.mem_of_getElem? (i := 835) (by decide +kernel), by decide +kernel⟩, ⟨List.mem_of_getElem? (i := 836) (by decide +kernel), by decide +kernel⟩, ⟨List.mem_of_getElem? (i := 837) (by decide +kernel), by decide +kernel⟩⟩
theorem kc_L_34 : kCV RL 34 mX6_seen 2 := ⟨km_X6_seen, ⟨List.mem_of_getElem? (i := 443) (by decide +kernel), by decide +kernel⟩, ⟨List.mem_of_getElem? (i := 444) (by decide +kernel), by decide +kernel⟩, ⟨List.mem_of_getElem? (i := 445) (by decide +kernel), by decide +kernel⟩⟩
theorem kc_L_37 : kCV RL 37 mX7_seen 2 := ⟨km_X7_seen, ⟨List.mem_of_getElem? (i := 851) (by decide +kernel), by decide +kernel⟩, ⟨List.mem_of_getElem? (i := 852) (by decide +kernel), by decide +kernel⟩, ⟨List.mem_of_getElem? (i := 853) (by decide +kernel), by decide +kernel⟩⟩
theorem kc_L_38 : kCV RL 38 mX6_person 2 := ⟨km_X6_person, ⟨List.mem_of_getElem? (i := 452) (by decide +kernel), by decide +kernel⟩, ⟨List.mem_of_getElem? (i := 453) (by decide +kernel), by decide +kernel⟩, ⟨List.mem_of_getElem? (i := 454) (by decide +kernel), by decide +kernel⟩⟩
theorem kc_L_41 : kCV RL 41 mX7_person 2 := ⟨km_X7_person, ⟨List.mem_of_getElem? (i := 856) (by decide +kernel), by decide +kernel⟩, ⟨List.mem_of_getElem? (i := 857) (by decide +kernel), by decide +kernel⟩, ⟨List.mem_of_getElem? (i := 858) (by decide +kernel), by decide +kernel⟩⟩
theorem kc_L_42 : kCV RL 42 mX6_law 1 := ⟨km_X6_law, ⟨List.mem_of_getElem? (i := 462) (by decide +kernel), by decide +kernel⟩, ⟨List.mem_of_getElem? (i := 463) (by decide +kernel), by decide +kernel⟩, ⟨List.mem_of_getElem? (i := 464) (by decide +kernel), by decide +kernel⟩⟩
theorem kc_L_46 : kCV RL 46 mX7_law 1 := ⟨km_X7_law, ⟨List.mem_of_getElem? (i := 867) (by decide +kernel), by decide +kernel⟩, ⟨List.mem_of_getElem? (i := 868) (by decide +kernel), by decide +kernel⟩, ⟨List.mem_of_getElem? (i := 869) (by decide +kernel), by decide +kernel⟩⟩
theorem kc_L_47 : kCV RL 47 mX6_rules 2 := ⟨km_X6_rules, ⟨List.mem_of_getElem? (i := 466) (by decide +kernel), by decide +kernel⟩, ⟨List.mem_of_getElem? (i := 467) (by decide +kernel), by decide +kernel⟩, ⟨List.mem_of_getElem? (i := 468) (by decide +kernel), by decide +kernel⟩⟩
theorem kc_L_50 : kCV RL 50 mX7_rules 2 := ⟨km_X7_rules, ⟨List.mem_of_getElem? (i := 871) (by decide +kernel), by decide +kernel⟩, ⟨List.mem_of_getElem? (i := 872) (by decide +kernel), by decide +kernel⟩, ⟨List.mem_of_getElem? (i := 873) (by decide +kernel), by decide +kernel⟩⟩
theorem kc_L_51 : kCV RL 51 mX6_chosen 0 := ⟨km_X6_chosen, ⟨List.mem_of_getElem? (i := 470) (by decide +kernel), by decide +kernel⟩, ⟨List.mem_of_getElem? (i := 471) (by decide +kernel), by decide +kernel⟩, ⟨List.mem_of_getElem? (i := 472) (by decide +kernel), by decide +kernel⟩⟩
theorem kc_L_54 : kCV RL 54 mX7_chosen 0 := ⟨km_X7_chosen, ⟨List.mem_of_getElem? (i := 875) (by decide +kernel), by decide +kernel⟩, ⟨List.mem_of_getElem? (i := 876) (by decide +kernel), by decide +kernel⟩, ⟨List.mem_of_getElem? (i := 877) (by decide +kernel), by decide +kernel⟩⟩
theorem kc_L_55 : kCV RL 55 mX6_meet 2 := ⟨km_X6_meet, ⟨List.mem_of_getElem? (i := 489) (by decide +kernel), by decide +kernel⟩, ⟨List.mem_of_getElem? (i := 490) (by decide +kernel), by decide +kernel⟩, ⟨List.mem_of_getElem? (i := 491) (by decide +kernel), by decide +kernel⟩⟩
theorem kc_L_58 : kCV RL 58 mX7_meet 2 := ⟨km_X7_meet, ⟨List.mem_of_getElem? (i := 887) (by decide +kernel), by decide +kernel⟩, ⟨List.mem_of_getElem? (i := 888) (by decide +kernel), by decide +kernel⟩, ⟨List.mem_of_getElem? (i := 889) (by decide +kernel), by decide +kernel⟩⟩
theorem kc_L_59 : kCV RL 59 mX6_introduce 3 := ⟨km_X6_introduce, ⟨List.mem_of_getElem? (i := 497) (by decide +kernel), by decide +kernel⟩, ⟨List.mem_of_getElem? (i := 498) (by decide +kernel), by decide +kernel⟩, ⟨List.mem_of_getElem? (i := 499) (by decide +kernel), by decide +kernel⟩⟩
theorem kc_L_63 : kCV RL 63 mX7_introduce 3 := ⟨km_X7_introduce, ⟨List.mem_of_getElem? (i := 895) (by decide +kernel), by decide +kernel⟩, ⟨List.mem_of_getElem? (i := 896) (by decide +kernel), by decide +kernel⟩, ⟨List.mem_of_getElem? (i := 897) (by decide +kernel), by decide +kernel⟩⟩
theorem kc_L_64 : kCV RL 64 mX6_moves 1 := ⟨km_X6_moves, ⟨List.mem_of_getElem? (i := 501) (by decide +kernel), by decide +kernel⟩, ⟨List.mem_of_getElem? (i := 502) (by decide +kernel), by decide +kernel⟩, ⟨List.mem_of_getElem? (i := 503) (by decide +kernel), by decide +kernel⟩⟩
theorem kc_L_67 : kCV RL 67 mX7_moves 1 := ⟨km_X7_moves, ⟨List.mem_of_getElem? (i := 899) (by decide +kernel), by decide +kernel⟩, ⟨List.mem_of_getElem? (i := 900) (by decide +kernel), by decide +kernel⟩, ⟨List.mem_of_getElem? (i := 901) (by decide +kernel), by decide +kernel⟩⟩
theorem kc_L_68 : kCV RL 68 mX6_go 1 := ⟨km_X6_go, ⟨List.mem_of_getElem? (i := 506) (by decide +kernel), by decide +kernel⟩, ⟨List.mem_of_getElem? (i := 507) (by decide +kernel), by decide +kernel⟩, ⟨List.mem_of_getElem? (i := 508) (by decide +kernel), by decide +kernel⟩⟩
theorem kc_L_71 : kCV RL 71 mX7_go 1 := ⟨km_X7_go, ⟨List.mem_of_getElem? (i := 903) (by decide +kernel), by decide +kernel⟩, ⟨List.mem_of_getElem? (i := 904) (by decide +kernel), by decide +kernel⟩, ⟨List.mem_of_getElem? (i := 905) (by decide +kernel), by decide +kernel⟩⟩
theorem kc_L_72 : kCV RL 72 mX6_now 1 := ⟨km_X6_now, ⟨List.mem_of_getElem? (i := 528) (by decide +kernel), by decide +kernel⟩, ⟨List.mem_of_getElem? (i := 529) (by decide +kernel), by decide +kernel⟩, ⟨List.mem_of_getElem? (i := 530) (by decide +kernel), by decide +kernel⟩⟩
theorem kc_L_75 : kCV RL 75 mX7_now 1 := ⟨km_X7_now, ⟨List.mem_of_getElem? (i := 911) (by decide +kernel), by decide +kernel⟩, ⟨List.mem_of_getElem? (i := 912) (by decide +kernel), by decide +kernel⟩, ⟨List.mem_of_getElem? (i := 913) (by decide +kernel), by decide +kernel⟩⟩
theorem kc_L_76 : kCV RL 76 mX6_anew 0 := ⟨km_X6_anew, ⟨List.mem_of_getElem? (i := 536) (by decide +kernel), by decide +kernel⟩, ⟨List.mem_of_getElem? (i := 537) (by decide +kernel), by decide +kernel⟩, ⟨List.mem_of_getElem? (i := 538) (by decide +kernel), by decide +kernel⟩⟩
theorem kc_L_79 : kCV RL 79 mX7_anew 0 := ⟨km_X7_anew, ⟨List.mem_of_getElem? (i := 919) (by decide +kernel), by decide +kernel⟩, ⟨List.mem_of_getElem? (i := 920) (by decide +kernel), by decide +kernel⟩, ⟨List.mem_of_getElem? (i := 921) (by decide +kernel), by decide +kernel⟩⟩
theorem kc_L_80 : kCV RL 80 mX6_reigns 1 := ⟨km_X6_reigns, ⟨List.mem_of_getElem? (i := 540) (by decide +kernel), by decide +kernel⟩, ⟨List.mem_of_getElem? (i := 541) (by decide +kernel), by decide +kernel⟩, ⟨List.mem_of_getElem? (i := 542) (by decide +kernel), by decide +kernel⟩⟩
theorem kc_L_83 : kCV RL 83 mX7_reigns 1 := ⟨km_X7_reigns, ⟨List.mem_of_getElem? (i := 923) (by decide +kernel), by decide +kernel⟩, ⟨List.mem_of_getElem? (i := 924) (by decide +kernel), by decide +kernel⟩, ⟨List.mem_of_getElem? (i := 925) (by decide +kernel), by decide +kernel⟩⟩
theorem kc_L_84 : kCV RL 84 mX6_ring 0 := ⟨km_X6_ring, ⟨List.mem_of_getElem? (i := 556) (by decide +kernel), by decide +kernel⟩, ⟨List.mem_of_getElem? (i := 557) (by decide +kernel), by decide +kernel⟩, ⟨List.mem_of_getElem? (i := 558) (by decide +kernel), by decide +kernel⟩⟩
theorem kc_L_87 : kCV RL 87 mX7_ring 0 := ⟨km_X7_ring, ⟨List.mem_of_getElem? (i := 931) (by decide +kernel), by decide +kernel⟩, ⟨List.mem_of_getElem? (i := 932) (by decide +kernel), by decide +kernel⟩, ⟨List.mem_of_getElem? (i := 933) (by decide +kernel), by decide +kernel⟩⟩
theorem kc_L_88 : kCV RL 88 mX6_brings 3 := ⟨km_X6_brings, ⟨List.mem_of_getElem? (i := 570) (by decide +kernel), by decide +kernel⟩, ⟨List.mem_of_getElem? (i := 571) (by decide +kernel), by decide +kernel⟩, ⟨List.mem_of_getElem? (i := 572) (by decide +kernel), by decide +kernel⟩⟩
theorem kc_L_91 : kCV RL 91 mX7_brings 3 := ⟨km_X7_brings, ⟨List.mem_of_getElem? (i := 935) (by decide +kernel), by decide +kernel⟩, ⟨List.mem_of_getElem? (i := 936) (by decide +kernel), by decide +kernel⟩, ⟨List.mem_of_getElem? (i := 937) (by decide +kernel), by decide +kernel⟩⟩
theorem kc_L_92 : kCV RL 92 mX6_days 4 := ⟨km_X6_days, ⟨List.mem_of_getElem? (i := 590) (by decide +kernel), by decide +kernel⟩, ⟨List.mem_of_getElem? (i := 591) (by decide +kernel), by decide +kernel⟩, ⟨List.mem_of_getElem? (i := 592) (by decide +kernel), by decide +kernel⟩⟩
theorem kc_L_96 : kCV RL 96 mX7_days 4 := ⟨km_X7_days, ⟨List.mem_of_getElem? (i := 955) (by decide +kernel), by decide +kernel⟩, ⟨List.mem_of_getElem? (i := 956) (by decide +kernel), by decide +kernel⟩, ⟨List.mem_of_getElem? (i := 957) (by decide +kernel), by decide +kernel⟩⟩
theorem kc_L_97 : kCV RL 97 mX6_asks 2 := ⟨km_X6_asks, ⟨List.mem_of_getElem? (i := 602) (by decide +kernel), by decide +kernel⟩, ⟨List.mem_of_getElem? (i := 603) (by decide +kernel), by decide +kernel⟩, ⟨List.mem_of_getElem? (i := 604) (by decide +kernel), by decide +kernel⟩⟩
theorem kc_L_100 : kCV RL 100 mX7_asks 2 := ⟨km_X7_asks, ⟨List.mem_of_getElem? (i := 983) (by decide +kernel), by decide +kernel⟩, ⟨List.mem_of_getElem? (i := 984) (by decide +kernel), by decide +kernel⟩, ⟨List.mem_of_getElem? (i := 985) (by decide +kernel), by decide +kernel⟩⟩
theorem kc_L_101 : kCV RL 101 mX6_party 1 := ⟨km_X6_party, ⟨List.mem_of_getElem? (i := 610) (by decide +kernel), by decide +kernel⟩, ⟨List.mem_of_getElem? (i := 611) (by decide +kernel), by decide +kernel⟩, ⟨List.mem_of_getElem? (i := 612) (by decide +kernel), by decide +kernel⟩⟩
theorem kc_L_104 : kCV RL 104 mX7_party 1 := ⟨km_X7_party, ⟨List.mem_of_getElem? (i := 987) (by decide +kernel), by decide +kernel⟩, ⟨List.mem_of_getElem? (i := 988) (by decide +kernel), by decide +kernel⟩, ⟨List.mem_of_getElem? (i := 989) (by decide +kernel), by decide +kernel⟩⟩
theorem kc_L_105 : kCV RL 105 mX6_parties 1 := ⟨km_X6_parties, ⟨List.mem_of_getElem? (i := 619) (by decide +kernel), by decide +kernel⟩, ⟨List.mem_of_getElem? (i := 620) (by decide +kernel), by decide +kernel⟩, ⟨List.mem_of_getElem? (i := 621) (by decide +kernel), by decide +kernel⟩⟩
theorem kc_L_108 : kCV RL 108 mX7_parties 1 := ⟨km_X7_parties, ⟨List.mem_of_getElem? (i := 995) (by decide +kernel), by decide +kernel⟩, ⟨List.mem_of_getElem? (i := 996) (by decide +kernel), by decide +kernel⟩, ⟨List.mem_of_getElem? (i := 997) (by decide +kernel), by decide +kernel⟩⟩
theorem kc_L_109 : kCV RL 109 mX6_rate 2 := ⟨km_X6_rate, ⟨List.mem_of_getElem? (i := 624) (by decide +kernel), by decide +kernel⟩, ⟨List.mem_of_getElem? (i := 625) (by decide +kernel), by decide +kernel⟩, ⟨List.mem_of_getElem? (i := 626) (by decide +kernel), by decide +kernel⟩⟩
theorem kc_L_112 : kCV RL 112 mX7_rate 2 := ⟨km_X7_rate, ⟨List.mem_of_getElem? (i := 999) (by decide +kernel), by decide +kernel⟩, ⟨List.mem_of_getElem? (i := 1000) (by decide +kernel), by decide +kernel⟩, ⟨List.mem_of_getElem? (i := 1001) (by decide +kernel), by decide +kernel⟩⟩
theorem kc_L_113 : kCV RL 113 mX6_keep 1 := ⟨km_X6_keep, ⟨List.mem_of_getElem? (i := 657) (by decide +kernel), by decide +kernel⟩, ⟨List.mem_of_getElem? (i := 658) (by decide +kernel), by decide +kernel⟩, ⟨List.mem_of_getElem? (i := 659) (by decide +kernel), by decide +kernel⟩⟩
theorem kc_L_116 : kCV RL 116 mX7_keep 1 := ⟨km_X7_keep, ⟨List.mem_of_getElem? (i := 1008) (by decide +kernel), by decide +kernel⟩, ⟨List.mem_of_getElem? (i := 1009) (by decide +kernel), by decide +kernel⟩, ⟨List.mem_of_getElem? (i := 1010) (by decide +kernel), by decide +kernel⟩⟩
theorem kc_L_117 : kCV RL 117 mX6_back 1 := ⟨km_X6_back, ⟨List.mem_of_getElem? (i := 666) (by decide +kernel), by decide +kernel⟩, ⟨List.mem_of_getElem? (i := 667) (by decide +kernel), by decide +kernel⟩, ⟨List.mem_of_getElem? (i := 668) (by decide +kernel), by decide +kernel⟩⟩
theorem kc_L_120 : kCV RL 120 mX7_back 1 := ⟨km_X7_back, ⟨List.mem_of_getElem? (i := 1012) (by decide +kernel), by decide +kernel⟩, ⟨List.mem_of_getElem? (i := 1013) (by decide +kernel), by decide +kernel⟩, ⟨List.mem_of_getElem? (i := 1014) (by decide +kernel), by decide +kernel⟩⟩
theorem kc_L_121 : kCV RL 121 mX6_count 1 := ⟨km_X6_count, ⟨List.mem_of_getElem? (i := 670) (by decide +kernel), by decide +kernel⟩, ⟨List.mem_of_getElem? (i := 671) (by decide +kernel), by decide +kernel⟩, ⟨List.mem_of_getElem? (i := 672) (by decide +kernel), by decide +kernel⟩⟩
theorem kc_L_124 : kCV RL 124 mX7_count 1 := ⟨km_X7_count, ⟨List.mem_of_getElem? (i := 1016) (by decide +kernel), by decide +kernel⟩, ⟨List.mem_of_getElem? (i := 1017) (by decide +kernel), by decide +kernel⟩, ⟨List.mem_of_getElem? (i := 1018) (by decide +kernel), by decide +kernel⟩⟩
theorem kc_L_125 : kCV RL 125 mX6_trace 0 := ⟨km_X6_trace, ⟨List.mem_of_getElem? (i := 678) (by decide +kernel), by decide +kernel⟩, ⟨List.mem_of_getElem? (i := 679) (by decide +kernel), by decide +kernel⟩, ⟨List.mem_of_getElem? (i := 680) (by decide +kernel), by decide +kernel⟩⟩
theorem kc_L_129 : kCV RL 129 mX7_trace 0 := ⟨km_X7_trace, ⟨List.mem_of_getElem? (i := 1020) (by decide +kernel), by decide +kernel⟩, ⟨List.mem_of_getElem? (i := 1021) (by decide +kernel), by decide +kernel⟩, ⟨List.mem_of_getElem? (i := 1022) (by decide +kernel), by decide +kernel⟩⟩
theorem fg_X0_18 : kGet RX0 18 0 2 := ⟨_, _, _, _, kcl_0, by decide, ⟨List.mem_of_getElem? (i := 178) (by decide +kernel), by decide +kernel⟩⟩
theorem kc_X0_49 : kCV RX0 49 mX5_choose 1 := ⟨km_X5_choose, ⟨List.mem_of_getElem? (i := 584) (by decide +kernel), by decide +kernel⟩, ⟨List.mem_of_getElem? (i := 475) (by decide +kernel), by decide +kernel⟩, ⟨List.mem_of_getElem? (i := 476) (by decide +kernel), by decide +kernel⟩⟩
theorem fg_X0_55 : kGet RX0 55 5 2 := ⟨_, _, _, _, kcl_5, by decide, ⟨List.mem_of_getElem? (i := 209) (by decide +kernel), by decide +kernel⟩⟩
theorem fg_X0_59 : kGet RX0 59 2 0 := ⟨_, _, _, _, kcl_2, by decide, ⟨List.mem_of_getElem? (i := 122) (by decide +kernel), by decide +kernel⟩⟩
theorem kc_X0_41 : kCSN RX0 41 mX6_at 2 := ⟨km_X6_at, ⟨"LeastKnown", List.mem_of_getElem? (i := 569) (by decide +kernel)⟩, ⟨List.mem_of_getElem? (i := 241) (by decide +kernel), by decide +kernel⟩⟩
theorem kc_X0_62 : kCV RX0 62 mX2_setKnowers 2 := ⟨km_X2_setKnowers, ⟨List.mem_of_getElem? (i := 585) (by decide +kernel), by decide +kernel⟩, ⟨List.mem_of_getElem? (i := 244) (by decide +kernel), by decide +kernel⟩, ⟨List.mem_of_getElem? (i := 245) (by decide +kernel), by decide +kernel⟩⟩
theorem kc_X0_45 : kCS RX0 45 mX0_bringsAbout 6 := ⟨km_X0_bringsAbout, ⟨List.mem_of_getElem? (i := 581) (by decide +kernel), by decide +kernel⟩, ⟨List.mem_of_getElem? (i := 582) (by decide +kernel), by decide +kernel⟩⟩
theorem kc_X0_66 : kCV RX0 66 mX0_noteInFront 1 := ⟨km_X0_noteInFront, ⟨List.mem_of_getElem? (i := 586) (by decide +kernel), by decide +kernel⟩, ⟨List.mem_of_getElem? (i := 588) (by decide +kernel), by decide +kernel⟩, ⟨List.mem_of_getElem? (i := 14) (by decide +kernel), by decide +kernel⟩⟩
theorem kc_X0_25 : kCV RX0 25 mX2_copyFrom 1 := ⟨km_X2_copyFrom, ⟨List.mem_of_getElem? (i := 548) (by decide +kernel), by decide +kernel⟩, ⟨List.mem_of_getElem? (i := 549) (by decide +kernel), by decide +kernel⟩, ⟨List.mem_of_getElem? (i := 550) (by decide +kernel), by decide +kernel⟩⟩
theorem ko_X0_3 : kW (Cond.methodLink RX0 3 Lib.objectInit) ∧ kW (Cond.instanceMethod Lib.objectInit) ∧ kW (Cond.code Lib.objectInit ⟨#[0xb1]⟩ 1 none) := ⟨⟨List.mem_of_getElem? (i := 171) (by decide +kernel), by decide +kernel⟩, ⟨List.mem_of_getElem? (i := 72) (by decide +kernel), by decide +kernel⟩, ⟨List.mem_of_getElem? (i := 73) (by decide +kernel), by decide +kernel⟩⟩
theorem fp_X0_9 : kPut RX0 "<init>" 9 0 0 (.array .int) := ⟨_, _, _, _, kcl_0, by decide, ⟨List.mem_of_getElem? (i := 174) (by decide +kernel), by decide +kernel⟩, rfl, Or.inr ⟨rfl, rfl, rfl⟩⟩
theorem kn_X0_15 : kNew RX0 15 2 7 [.null, .null, .null, .null, .int 0, .int 0, .int 0] := ⟨_, _, _, kcl_2, ⟨List.mem_of_getElem? (i := 172) (by decide +kernel), by decide +kernel⟩, ⟨List.mem_of_getElem? (i := 116) (by decide +kernel), by decide +kernel⟩, ⟨List.mem_of_getElem? (i := 55) (by decide +kernel), by decide +kernel⟩, by decide +kernel⟩
theorem kc_X0_17 : kCIN RX0 17 mX2_init 0 := ⟨km_X2_init, ⟨"LeastKnown", List.mem_of_getElem? (i := 173) (by decide +kernel)⟩, ⟨List.mem_of_getElem? (i := 118) (by decide +kernel), by decide +kernel⟩, rfl, rfl⟩
theorem fp_X0_18 : kPut RX0 "<init>" 18 0 2 (.object "LeastKnown$Now") := ⟨_, _, _, _, kcl_0, by decide, ⟨List.mem_of_getElem? (i := 178) (by decide +kernel), by decide +kernel⟩, rfl, Or.inr ⟨rfl, rfl, rfl⟩⟩
theorem fp_X0_22 : kPut RX0 "<init>" 22 0 3 (.array .int) := ⟨_, _, _, _, kcl_0, by decide, ⟨List.mem_of_getElem? (i := 179) (by decide +kernel), by decide +kernel⟩, rfl, Or.inr ⟨rfl, rfl, rfl⟩⟩
theorem fg_X0_22 : kGet RX0 22 0 3 := ⟨_, _, _, _, kcl_0, by decide, ⟨List.mem_of_getElem? (i := 179) (by decide +kernel), by decide +kernel⟩⟩
theorem fp_X0_70 (name : String) : kPut RX0 name 70 0 1 (.int) := ⟨_, _, _, _, kcl_0, by decide, ⟨List.mem_of_getElem? (i := 176) (by decide +kernel), by decide +kernel⟩, rfl, Or.inl rfl⟩
theorem kc_X0_73 : kCS RX0 73 mJ9_min_7cf53 2 := ⟨km_J9_min_7cf53, ⟨List.mem_of_getElem? (i := 598) (by decide +kernel), by decide +kernel⟩, ⟨List.mem_of_getElem? (i := 511) (by decide +kernel), by decide +kernel⟩⟩
theorem kc_X0_79 : kCS RX0 79 mX0_outcome 6 := ⟨km_X0_outcome, ⟨List.mem_of_getElem? (i := 599) (by decide +kernel), by decide +kernel⟩, ⟨List.mem_of_getElem? (i := 600) (by decide +kernel), by decide +kernel⟩⟩
theorem kc_X0_29 : kCV RX0 29 mX2_spring 1 := ⟨km_X2_spring, ⟨List.mem_of_getElem? (i := 555) (by decide +kernel), by decide +kernel⟩, ⟨List.mem_of_getElem? (i := 514) (by decide +kernel), by decide +kernel⟩, ⟨List.mem_of_getElem? (i := 515) (by decide +kernel), by decide +kernel⟩⟩
theorem kc_X0_33 : kCSN RX0 33 mX6_put 3 := ⟨km_X6_put, ⟨"LeastKnown", List.mem_of_getElem? (i := 564) (by decide +kernel)⟩, ⟨List.mem_of_getElem? (i := 248) (by decide +kernel), by decide +kernel⟩⟩
theorem kc_X0_37 : kCV RX0 37 mX0_isRing 1 := ⟨km_X0_isRing, ⟨List.mem_of_getElem? (i := 565) (by decide +kernel), by decide +kernel⟩, ⟨List.mem_of_getElem? (i := 567) (by decide +kernel), by decide +kernel⟩, ⟨List.mem_of_getElem? (i := 13) (by decide +kernel), by decide +kernel⟩⟩
theorem fg_X0_9 : kGet RX0 9 0 0 := ⟨_, _, _, _, kcl_0, by decide, ⟨List.mem_of_getElem? (i := 174) (by decide +kernel), by decide +kernel⟩⟩
theorem ko_X1_1 : kW (Cond.methodLink RX1 1 Lib.objectInit) ∧ kW (Cond.instanceMethod Lib.objectInit) ∧ kW (Cond.code Lib.objectInit ⟨#[0xb1]⟩ 1 none) := ⟨⟨List.mem_of_getElem? (i := 155) (by decide +kernel), by decide +kernel⟩, ⟨List.mem_of_getElem? (i := 72) (by decide +kernel), by decide +kernel⟩, ⟨List.mem_of_getElem? (i := 73) (by decide +kernel), by decide +kernel⟩⟩
theorem kn_X1_7 : kNew RX1 7 2 7 [.null, .null, .null, .null, .int 0, .int 0, .int 0] := ⟨_, _, _, kcl_2, ⟨List.mem_of_getElem? (i := 156) (by decide +kernel), by decide +kernel⟩, ⟨List.mem_of_getElem? (i := 116) (by decide +kernel), by decide +kernel⟩, ⟨List.mem_of_getElem? (i := 55) (by decide +kernel), by decide +kernel⟩, by decide +kernel⟩
theorem kc_X1_9 : kCIN RX1 9 mX2_init 0 := ⟨km_X2_init, ⟨"LeastKnown", List.mem_of_getElem? (i := 157) (by decide +kernel)⟩, ⟨List.mem_of_getElem? (i := 118) (by decide +kernel), by decide +kernel⟩, rfl, rfl⟩
theorem fp_X1_10 : kPut RX1 "<init>" 10 1 0 (.object "LeastKnown$Now") := ⟨_, _, _, _, kcl_1, by decide, ⟨List.mem_of_getElem? (i := 158) (by decide +kernel), by decide +kernel⟩, rfl, Or.inr ⟨rfl, rfl, rfl⟩⟩
theorem kc_X2_63 : kCV RX2 63 mX2_isAware 2 := ⟨km_X2_isAware, ⟨List.mem_of_getElem? (i := 461) (by decide +kernel), by decide +kernel⟩, ⟨List.mem_of_getElem? (i := 440) (by decide +kernel), by decide +kernel⟩, ⟨List.mem_of_getElem? (i := 441) (by decide +kernel), by decide +kernel⟩⟩
theorem fg_X2_15 : kGet RX2 15 2 1 := ⟨_, _, _, _, kcl_2, by decide, ⟨List.mem_of_getElem? (i := 123) (by decide +kernel), by decide +kernel⟩⟩
theorem kc_X2_27 : kCSN RX2 27 mX6_at 2 := ⟨km_X6_at, ⟨"LeastKnown", List.mem_of_getElem? (i := 240) (by decide +kernel)⟩, ⟨List.mem_of_getElem? (i := 241) (by decide +kernel), by decide +kernel⟩⟩
theorem fg_X2_24 : kGet RX2 24 5 0 := ⟨_, _, _, _, kcl_5, by decide, ⟨List.mem_of_getElem? (i := 203) (by decide +kernel), by decide +kernel⟩⟩
theorem kc_X2_31 : kCV RX2 31 mX2_setKnowers 2 := ⟨km_X2_setKnowers, ⟨List.mem_of_getElem? (i := 243) (by decide +kernel), by decide +kernel⟩, ⟨List.mem_of_getElem? (i := 244) (by decide +kernel), by decide +kernel⟩, ⟨List.mem_of_getElem? (i := 245) (by decide +kernel), by decide +kernel⟩⟩
theorem fg_X2_18 : kGet RX2 18 2 2 := ⟨_, _, _, _, kcl_2, by decide, ⟨List.mem_of_getElem? (i := 126) (by decide +kernel), by decide +kernel⟩⟩
theorem kc_X2_35 : kCSN RX2 35 mX6_fill 2 := ⟨km_X6_fill, ⟨"LeastKnown", List.mem_of_getElem? (i := 256) (by decide +kernel)⟩, ⟨List.mem_of_getElem? (i := 200) (by decide +kernel), by decide +kernel⟩⟩
theorem fg_X2_21 : kGet RX2 21 2 3 := ⟨_, _, _, _, kcl_2, by decide, ⟨List.mem_of_getElem? (i := 127) (by decide +kernel), by decide +kernel⟩⟩
theorem fp_X2_39 (name : String) : kPut RX2 name 39 2 4 (.int) := ⟨_, _, _, _, kcl_2, by decide, ⟨List.mem_of_getElem? (i := 129) (by decide +kernel), by decide +kernel⟩, rfl, Or.inl rfl⟩
theorem fp_X2_43 (name : String) : kPut RX2 name 43 2 5 (.int) := ⟨_, _, _, _, kcl_2, by decide, ⟨List.mem_of_getElem? (i := 131) (by decide +kernel), by decide +kernel⟩, rfl, Or.inl rfl⟩
theorem fp_X2_46 (name : String) : kPut RX2 name 46 2 6 (.int) := ⟨_, _, _, _, kcl_2, by decide, ⟨List.mem_of_getElem? (i := 133) (by decide +kernel), by decide +kernel⟩, rfl, Or.inl rfl⟩
theorem fg_X2_9 : kGet RX2 9 2 0 := ⟨_, _, _, _, kcl_2, by decide, ⟨List.mem_of_getElem? (i := 121) (by decide +kernel), by decide +kernel⟩⟩
theorem kc_X2_49 : kCSN RX2 49 mX6_copy 2 := ⟨km_X6_copy, ⟨"LeastKnown", List.mem_of_getElem? (i := 552) (by decide +kernel)⟩, ⟨List.mem_of_getElem? (i := 553) (by decide +kernel), by decide +kernel⟩⟩
theorem fg_X2_39 : kGet RX2 39 2 4 := ⟨_, _, _, _, kcl_2, by decide, ⟨List.mem_of_getElem? (i := 129) (by decide +kernel), by decide +kernel⟩⟩
theorem fg_X2_43 : kGet RX2 43 2 5 := ⟨_, _, _, _, kcl_2, by decide, ⟨List.mem_of_getElem? (i := 131) (by decide +kernel), by decide +kernel⟩⟩
theorem fg_X2_46 : kGet RX2 46 2 6 := ⟨_, _, _, _, kcl_2, by decide, ⟨List.mem_of_getElem? (i := 133) (by decide +kernel), by decide +kernel⟩⟩
theorem kc_X2_73 : kCV RX2 73 mX2_learn 2 := ⟨km_X2_learn, ⟨List.mem_of_getElem? (i := 517) (by decide +kernel), by decide +kernel⟩, ⟨List.mem_of_getElem? (i := 494) (by decide +kernel), by decide +kernel⟩, ⟨List.mem_of_getElem? (i := 495) (by decide +kernel), by decide +kernel⟩⟩
theorem kc_X2_53 : kCSN RX2 53 mX6_put 3 := ⟨km_X6_put, ⟨"LeastKnown", List.mem_of_getElem? (i := 247) (by decide +kernel)⟩, ⟨List.mem_of_getElem? (i := 248) (by decide +kernel), by decide +kernel⟩⟩
theorem fg_X2_67 : kGet RX2 67 5 2 := ⟨_, _, _, _, kcl_5, by decide, ⟨List.mem_of_getElem? (i := 212) (by decide +kernel), by decide +kernel⟩⟩
theorem kc_X2_91 : kCV RX2 91 mX2_sight 2 := ⟨km_X2_sight, ⟨List.mem_of_getElem? (i := 527) (by decide +kernel), by decide +kernel⟩, ⟨List.mem_of_getElem? (i := 449) (by decide +kernel), by decide +kernel⟩, ⟨List.mem_of_getElem? (i := 450) (by decide +kernel), by decide +kernel⟩⟩
theorem fg_X2_84 : kGet RX2 84 5 3 := ⟨_, _, _, _, kcl_5, by decide, ⟨List.mem_of_getElem? (i := 216) (by decide +kernel), by decide +kernel⟩⟩
theorem ko_X2_3 : kW (Cond.methodLink RX2 3 Lib.objectInit) ∧ kW (Cond.instanceMethod Lib.objectInit) ∧ kW (Cond.code Lib.objectInit ⟨#[0xb1]⟩ 1 none) := ⟨⟨List.mem_of_getElem? (i := 120) (by decide +kernel), by decide +kernel⟩, ⟨List.mem_of_getElem? (i := 72) (by decide +kernel), by decide +kernel⟩, ⟨List.mem_of_getElem? (i := 73) (by decide +kernel), by decide +kernel⟩⟩
theorem fp_X2_9 : kPut RX2 "<init>" 9 2 0 (.array .int) := ⟨_, _, _, _, kcl_2, by decide, ⟨List.mem_of_getElem? (i := 121) (by decide +kernel), by decide +kernel⟩, rfl, Or.inr ⟨rfl, rfl, rfl⟩⟩
theorem fp_X2_15 : kPut RX2 "<init>" 15 2 1 (.array .int) := ⟨_, _, _, _, kcl_2, by decide, ⟨List.mem_of_getElem? (i := 123) (by decide +kernel), by decide +kernel⟩, rfl, Or.inr ⟨rfl, rfl, rfl⟩⟩
theorem fp_X2_18 : kPut RX2 "<init>" 18 2 2 (.array .int) := ⟨_, _, _, _, kcl_2, by decide, ⟨List.mem_of_getElem? (i := 126) (by decide +kernel), by decide +kernel⟩, rfl, Or.inr ⟨rfl, rfl, rfl⟩⟩
theorem fp_X2_21 : kPut RX2 "<init>" 21 2 3 (.array .int) := ⟨_, _, _, _, kcl_2, by decide, ⟨List.mem_of_getElem? (i := 127) (by decide +kernel), by decide +kernel⟩, rfl, Or.inr ⟨rfl, rfl, rfl⟩⟩
theorem kc_X2_57 : kCS RX2 57 mJ6_bitCount_0f7a4 1 := ⟨km_J6_bitCount_0f7a4, ⟨List.mem_of_getElem? (i := 250) (by decide +kernel), by decide +kernel⟩, ⟨List.mem_of_getElem? (i := 251) (by decide +kernel), by decide +kernel⟩⟩
theorem fg_X2_70 : kGet RX2 70 5 1 := ⟨_, _, _, _, kcl_5, by decide, ⟨List.mem_of_getElem? (i := 206) (by decide +kernel), by decide +kernel⟩⟩
theorem kc_X2_77 : kCV RX2 77 mX5_choose 1 := ⟨km_X5_choose, ⟨List.mem_of_getElem? (i := 518) (by decide +kernel), by decide +kernel⟩, ⟨List.mem_of_getElem? (i := 475) (by decide +kernel), by decide +kernel⟩, ⟨List.mem_of_getElem? (i := 476) (by decide +kernel), by decide +kernel⟩⟩
theorem kc_X2_81 : kCV RX2 81 mX2_crown 2 := ⟨km_X2_crown, ⟨List.mem_of_getElem? (i := 519) (by decide +kernel), by decide +kernel⟩, ⟨List.mem_of_getElem? (i := 521) (by decide +kernel), by decide +kernel⟩, ⟨List.mem_of_getElem? (i := 11) (by decide +kernel), by decide +kernel⟩⟩
theorem kc_X2_87 : kCV RX2 87 mX2_forget 1 := ⟨km_X2_forget, ⟨List.mem_of_getElem? (i := 523) (by decide +kernel), by decide +kernel⟩, ⟨List.mem_of_getElem? (i := 525) (by decide +kernel), by decide +kernel⟩, ⟨List.mem_of_getElem? (i := 12) (by decide +kernel), by decide +kernel⟩⟩
theorem fg_X3_49 : kGet RX3 49 4 1 := ⟨_, _, _, _, kcl_4, by decide, ⟨List.mem_of_getElem? (i := 83) (by decide +kernel), by decide +kernel⟩⟩
theorem kc_X3_54 : kCV RX3 54 mX4_begins 1 := ⟨km_X4_begins, ⟨List.mem_of_getElem? (i := 311) (by decide +kernel), by decide +kernel⟩, ⟨List.mem_of_getElem? (i := 312) (by decide +kernel), by decide +kernel⟩, ⟨List.mem_of_getElem? (i := 313) (by decide +kernel), by decide +kernel⟩⟩
theorem fg_X3_9 : kGet RX3 9 3 0 := ⟨_, _, _, _, kcl_3, by decide, ⟨List.mem_of_getElem? (i := 96) (by decide +kernel), by decide +kernel⟩⟩
theorem kc_X3_58 : kCS RX3 58 mX3_tokenAt 2 := ⟨km_X3_tokenAt, ⟨List.mem_of_getElem? (i := 326) (by decide +kernel), by decide +kernel⟩, ⟨List.mem_of_getElem? (i := 327) (by decide +kernel), by decide +kernel⟩⟩
theorem kc_X3_62 : kCSN RX3 62 mX6_put 3 := ⟨km_X6_put, ⟨"LeastKnown", List.mem_of_getElem? (i := 390) (by decide +kernel)⟩, ⟨List.mem_of_getElem? (i := 248) (by decide +kernel), by decide +kernel⟩⟩
theorem fg_X3_15 : kGet RX3 15 3 1 := ⟨_, _, _, _, kcl_3, by decide, ⟨List.mem_of_getElem? (i := 97) (by decide +kernel), by decide +kernel⟩⟩
theorem ko_X3_3 : kW (Cond.methodLink RX3 3 Lib.objectInit) ∧ kW (Cond.instanceMethod Lib.objectInit) ∧ kW (Cond.code Lib.objectInit ⟨#[0xb1]⟩ 1 none) := ⟨⟨List.mem_of_getElem? (i := 95) (by decide +kernel), by decide +kernel⟩, ⟨List.mem_of_getElem? (i := 72) (by decide +kernel), by decide +kernel⟩, ⟨List.mem_of_getElem? (i := 73) (by decide +kernel), by decide +kernel⟩⟩
theorem fp_X3_9 : kPut RX3 "<init>" 9 3 0 (.array .int) := ⟨_, _, _, _, kcl_3, by decide, ⟨List.mem_of_getElem? (i := 96) (by decide +kernel), by decide +kernel⟩, rfl, Or.inr ⟨rfl, rfl, rfl⟩⟩
theorem fp_X3_15 : kPut RX3 "<init>" 15 3 1 (.array .int) := ⟨_, _, _, _, kcl_3, by decide, ⟨List.mem_of_getElem? (i := 97) (by decide +kernel), by decide +kernel⟩, rfl, Or.inr ⟨rfl, rfl, rfl⟩⟩
theorem kc_X3_88 : kCV RX3 88 mJ0_length_8abf5 0 := ⟨km_J0_length_8abf5, ⟨List.mem_of_getElem? (i := 338) (by decide +kernel), by decide +kernel⟩, ⟨List.mem_of_getElem? (i := 339) (by decide +kernel), by decide +kernel⟩, ⟨List.mem_of_getElem? (i := 340) (by decide +kernel), by decide +kernel⟩⟩
theorem kc_X3_94 : kCV RX3 94 mJ0_charAt_5068e 1 := ⟨km_J0_charAt_5068e, ⟨List.mem_of_getElem? (i := 348) (by decide +kernel), by decide +kernel⟩, ⟨List.mem_of_getElem? (i := 349) (by decide +kernel), by decide +kernel⟩, ⟨List.mem_of_getElem? (i := 350) (by decide +kernel), by decide +kernel⟩⟩
theorem kc_X3_66 : kCV RX3 66 mX4_byteAt 1 := ⟨km_X4_byteAt, ⟨List.mem_of_getElem? (i := 329) (by decide +kernel), by decide +kernel⟩, ⟨List.mem_of_getElem? (i := 316) (by decide +kernel), by decide +kernel⟩, ⟨List.mem_of_getElem? (i := 317) (by decide +kernel), by decide +kernel⟩⟩
theorem kc_X3_70 : kCS RX3 70 mX4_isLetter 1 := ⟨km_X4_isLetter, ⟨List.mem_of_getElem? (i := 330) (by decide +kernel), by decide +kernel⟩, ⟨List.mem_of_getElem? (i := 321) (by decide +kernel), by decide +kernel⟩⟩
theorem fg_X3_106 : kGet RX3 106 5 2 := ⟨_, _, _, _, kcl_5, by decide, ⟨List.mem_of_getElem? (i := 210) (by decide +kernel), by decide +kernel⟩⟩
theorem fg_X3_38 : kGet RX3 38 3 5 := ⟨_, _, _, _, kcl_3, by decide, ⟨List.mem_of_getElem? (i := 101) (by decide +kernel), by decide +kernel⟩⟩
theorem fg_X3_34 : kGet RX3 34 3 4 := ⟨_, _, _, _, kcl_3, by decide, ⟨List.mem_of_getElem? (i := 100) (by decide +kernel), by decide +kernel⟩⟩
theorem fg_X3_27 : kGet RX3 27 3 2 := ⟨_, _, _, _, kcl_3, by decide, ⟨List.mem_of_getElem? (i := 98) (by decide +kernel), by decide +kernel⟩⟩
theorem kc_X3_41 : kCSN RX3 41 mX6_at 2 := ⟨km_X6_at, ⟨"LeastKnown", List.mem_of_getElem? (i := 391) (by decide +kernel)⟩, ⟨List.mem_of_getElem? (i := 241) (by decide +kernel), by decide +kernel⟩⟩
theorem kc_X3_76 : kCS RX3 76 mX4_isDigit 1 := ⟨km_X4_isDigit, ⟨List.mem_of_getElem? (i := 386) (by decide +kernel), by decide +kernel⟩, ⟨List.mem_of_getElem? (i := 324) (by decide +kernel), by decide +kernel⟩⟩
theorem kc_X3_18 : kCV RX3 18 mX5_empty 0 := ⟨km_X5_empty, ⟨List.mem_of_getElem? (i := 306) (by decide +kernel), by decide +kernel⟩, ⟨List.mem_of_getElem? (i := 196) (by decide +kernel), by decide +kernel⟩, ⟨List.mem_of_getElem? (i := 197) (by decide +kernel), by decide +kernel⟩⟩
theorem kc_X3_23 : kCV RX3 23 mX3_findTokens 1 := ⟨km_X3_findTokens, ⟨List.mem_of_getElem? (i := 307) (by decide +kernel), by decide +kernel⟩, ⟨List.mem_of_getElem? (i := 309) (by decide +kernel), by decide +kernel⟩, ⟨List.mem_of_getElem? (i := 0) (by decide +kernel), by decide +kernel⟩⟩
theorem fp_X3_27 (name : String) : kPut RX3 name 27 3 2 (.int) := ⟨_, _, _, _, kcl_3, by decide, ⟨List.mem_of_getElem? (i := 98) (by decide +kernel), by decide +kernel⟩, rfl, Or.inl rfl⟩
theorem fp_X3_31 (name : String) : kPut RX3 name 31 3 3 (.int) := ⟨_, _, _, _, kcl_3, by decide, ⟨List.mem_of_getElem? (i := 99) (by decide +kernel), by decide +kernel⟩, rfl, Or.inl rfl⟩
theorem fp_X3_34 (name : String) : kPut RX3 name 34 3 4 (.boolean) := ⟨_, _, _, _, kcl_3, by decide, ⟨List.mem_of_getElem? (i := 100) (by decide +kernel), by decide +kernel⟩, rfl, Or.inl rfl⟩
theorem fp_X3_38 (name : String) : kPut RX3 name 38 3 5 (.boolean) := ⟨_, _, _, _, kcl_3, by decide, ⟨List.mem_of_getElem? (i := 101) (by decide +kernel), by decide +kernel⟩, rfl, Or.inl rfl⟩
theorem kc_X3_45 : kCV RX3 45 mX3_readItem 1 := ⟨km_X3_readItem, ⟨List.mem_of_getElem? (i := 392) (by decide +kernel), by decide +kernel⟩, ⟨List.mem_of_getElem? (i := 394) (by decide +kernel), by decide +kernel⟩, ⟨List.mem_of_getElem? (i := 1) (by decide +kernel), by decide +kernel⟩⟩
theorem fg_X3_31 : kGet RX3 31 3 3 := ⟨_, _, _, _, kcl_3, by decide, ⟨List.mem_of_getElem? (i := 99) (by decide +kernel), by decide +kernel⟩⟩
theorem kc_X3_119 : kCV RX3 119 mX3_number 0 := ⟨km_X3_number, ⟨List.mem_of_getElem? (i := 408) (by decide +kernel), by decide +kernel⟩, ⟨List.mem_of_getElem? (i := 410) (by decide +kernel), by decide +kernel⟩, ⟨List.mem_of_getElem? (i := 5) (by decide +kernel), by decide +kernel⟩⟩
theorem kc_X3_102 : kCV RX3 102 mX3_take 1 := ⟨km_X3_take, ⟨List.mem_of_getElem? (i := 400) (by decide +kernel), by decide +kernel⟩, ⟨List.mem_of_getElem? (i := 402) (by decide +kernel), by decide +kernel⟩, ⟨List.mem_of_getElem? (i := 3) (by decide +kernel), by decide +kernel⟩⟩
theorem fp_X3_122 (name : String) : kPut RX3 name 122 5 3 (.int) := ⟨_, _, _, _, kcl_5, by decide, ⟨List.mem_of_getElem? (i := 215) (by decide +kernel), by decide +kernel⟩, rfl, Or.inl rfl⟩
theorem kc_X3_98 : kCV RX3 98 mX3_mayBegin 2 := ⟨km_X3_mayBegin, ⟨List.mem_of_getElem? (i := 396) (by decide +kernel), by decide +kernel⟩, ⟨List.mem_of_getElem? (i := 398) (by decide +kernel), by decide +kernel⟩, ⟨List.mem_of_getElem? (i := 2) (by decide +kernel), by decide +kernel⟩⟩
theorem fp_X3_106 (name : String) : kPut RX3 name 106 5 2 (.int) := ⟨_, _, _, _, kcl_5, by decide, ⟨List.mem_of_getElem? (i := 210) (by decide +kernel), by decide +kernel⟩, rfl, Or.inl rfl⟩
theorem kc_X3_109 : kCV RX3 109 mX3_readForgets 1 := ⟨km_X3_readForgets, ⟨List.mem_of_getElem? (i := 404) (by decide +kernel), by decide +kernel⟩, ⟨List.mem_of_getElem? (i := 406) (by decide +kernel), by decide +kernel⟩, ⟨List.mem_of_getElem? (i := 4) (by decide +kernel), by decide +kernel⟩⟩
theorem kc_X3_113 : kCV RX3 113 mX3_readLaw 1 := ⟨km_X3_readLaw, ⟨List.mem_of_getElem? (i := 412) (by decide +kernel), by decide +kernel⟩, ⟨List.mem_of_getElem? (i := 414) (by decide +kernel), by decide +kernel⟩, ⟨List.mem_of_getElem? (i := 6) (by decide +kernel), by decide +kernel⟩⟩
theorem kc_X3_116 : kCV RX3 116 mX3_readPair 2 := ⟨km_X3_readPair, ⟨List.mem_of_getElem? (i := 416) (by decide +kernel), by decide +kernel⟩, ⟨List.mem_of_getElem? (i := 418) (by decide +kernel), by decide +kernel⟩, ⟨List.mem_of_getElem? (i := 7) (by decide +kernel), by decide +kernel⟩⟩
theorem fp_X3_125 (name : String) : kPut RX3 name 125 5 4 (.int) := ⟨_, _, _, _, kcl_5, by decide, ⟨List.mem_of_getElem? (i := 219) (by decide +kernel), by decide +kernel⟩, rfl, Or.inl rfl⟩
theorem fg_X3_125 : kGet RX3 125 5 4 := ⟨_, _, _, _, kcl_5, by decide, ⟨List.mem_of_getElem? (i := 219) (by decide +kernel), by decide +kernel⟩⟩
theorem fp_X3_128 (name : String) : kPut RX3 name 128 5 5 (.int) := ⟨_, _, _, _, kcl_5, by decide, ⟨List.mem_of_getElem? (i := 222) (by decide +kernel), by decide +kernel⟩, rfl, Or.inl rfl⟩
theorem fg_X3_131 : kGet RX3 131 5 1 := ⟨_, _, _, _, kcl_5, by decide, ⟨List.mem_of_getElem? (i := 207) (by decide +kernel), by decide +kernel⟩⟩
theorem kc_X3_134 : kCV RX3 134 mX5_tell 2 := ⟨km_X5_tell, ⟨List.mem_of_getElem? (i := 420) (by decide +kernel), by decide +kernel⟩, ⟨List.mem_of_getElem? (i := 421) (by decide +kernel), by decide +kernel⟩, ⟨List.mem_of_getElem? (i := 422) (by decide +kernel), by decide +kernel⟩⟩
theorem kc_X3_73 : kCS RX3 73 mX3_wordAt 2 := ⟨km_X3_wordAt, ⟨List.mem_of_getElem? (i := 331) (by decide +kernel), by decide +kernel⟩, ⟨List.mem_of_getElem? (i := 332) (by decide +kernel), by decide +kernel⟩⟩
theorem kc_X3_79 : kCS RX3 79 mX3_numberAt 2 := ⟨km_X3_numberAt, ⟨List.mem_of_getElem? (i := 387) (by decide +kernel), by decide +kernel⟩, ⟨List.mem_of_getElem? (i := 388) (by decide +kernel), by decide +kernel⟩⟩
theorem kc_X3_82 : kCS RX3 82 mX3_isWord 3 := ⟨km_X3_isWord, ⟨List.mem_of_getElem? (i := 334) (by decide +kernel), by decide +kernel⟩, ⟨List.mem_of_getElem? (i := 335) (by decide +kernel), by decide +kernel⟩⟩
theorem fg_X4_15 : kGet RX4 15 4 1 := ⟨_, _, _, _, kcl_4, by decide, ⟨List.mem_of_getElem? (i := 81) (by decide +kernel), by decide +kernel⟩⟩
theorem fg_X4_9 : kGet RX4 9 4 0 := ⟨_, _, _, _, kcl_4, by decide, ⟨List.mem_of_getElem? (i := 80) (by decide +kernel), by decide +kernel⟩⟩
theorem kc_X4_19 : kCSN RX4 19 mX6_put 3 := ⟨km_X6_put, ⟨"LeastKnown", List.mem_of_getElem? (i := 293) (by decide +kernel)⟩, ⟨List.mem_of_getElem? (i := 248) (by decide +kernel), by decide +kernel⟩⟩
theorem fp_X4_15 (name : String) : kPut RX4 name 15 4 1 (.int) := ⟨_, _, _, _, kcl_4, by decide, ⟨List.mem_of_getElem? (i := 81) (by decide +kernel), by decide +kernel⟩, rfl, Or.inl rfl⟩
theorem kc_X4_27 : kCV RX4 27 mX4_byteAt 1 := ⟨km_X4_byteAt, ⟨List.mem_of_getElem? (i := 315) (by decide +kernel), by decide +kernel⟩, ⟨List.mem_of_getElem? (i := 316) (by decide +kernel), by decide +kernel⟩, ⟨List.mem_of_getElem? (i := 317) (by decide +kernel), by decide +kernel⟩⟩
theorem kc_X4_31 : kCS RX4 31 mX4_isLetter 1 := ⟨km_X4_isLetter, ⟨List.mem_of_getElem? (i := 320) (by decide +kernel), by decide +kernel⟩, ⟨List.mem_of_getElem? (i := 321) (by decide +kernel), by decide +kernel⟩⟩
theorem kc_X4_35 : kCS RX4 35 mX4_isDigit 1 := ⟨km_X4_isDigit, ⟨List.mem_of_getElem? (i := 323) (by decide +kernel), by decide +kernel⟩, ⟨List.mem_of_getElem? (i := 324) (by decide +kernel), by decide +kernel⟩⟩
theorem kc_X4_23 : kCSN RX4 23 mX6_at 2 := ⟨km_X6_at, ⟨"LeastKnown", List.mem_of_getElem? (i := 319) (by decide +kernel)⟩, ⟨List.mem_of_getElem? (i := 241) (by decide +kernel), by decide +kernel⟩⟩
theorem ko_X4_3 : kW (Cond.methodLink RX4 3 Lib.objectInit) ∧ kW (Cond.instanceMethod Lib.objectInit) ∧ kW (Cond.code Lib.objectInit ⟨#[0xb1]⟩ 1 none) := ⟨⟨List.mem_of_getElem? (i := 79) (by decide +kernel), by decide +kernel⟩, ⟨List.mem_of_getElem? (i := 72) (by decide +kernel), by decide +kernel⟩, ⟨List.mem_of_getElem? (i := 73) (by decide +kernel), by decide +kernel⟩⟩
theorem fp_X4_9 : kPut RX4 "<init>" 9 4 0 (.array .int) := ⟨_, _, _, _, kcl_4, by decide, ⟨List.mem_of_getElem? (i := 80) (by decide +kernel), by decide +kernel⟩, rfl, Or.inr ⟨rfl, rfl, rfl⟩⟩
theorem kc_X5_46 : kCV RX5 46 mX5_everyone 0 := ⟨km_X5_everyone, ⟨List.mem_of_getElem? (i := 478) (by decide +kernel), by decide +kernel⟩, ⟨List.mem_of_getElem? (i := 479) (by decide +kernel), by decide +kernel⟩, ⟨List.mem_of_getElem? (i := 480) (by decide +kernel), by decide +kernel⟩⟩
theorem fg_X5_50 : kGet RX5 50 2 1 := ⟨_, _, _, _, kcl_2, by decide, ⟨List.mem_of_getElem? (i := 124) (by decide +kernel), by decide +kernel⟩⟩
theorem kc_X5_55 : kCS RX5 55 mX5_leastOf 2 := ⟨km_X5_leastOf, ⟨List.mem_of_getElem? (i := 482) (by decide +kernel), by decide +kernel⟩, ⟨List.mem_of_getElem? (i := 483) (by decide +kernel), by decide +kernel⟩⟩
theorem fg_X5_58 : kGet RX5 58 2 4 := ⟨_, _, _, _, kcl_2, by decide, ⟨List.mem_of_getElem? (i := 130) (by decide +kernel), by decide +kernel⟩⟩
theorem fg_X5_32 : kGet RX5 32 5 4 := ⟨_, _, _, _, kcl_5, by decide, ⟨List.mem_of_getElem? (i := 217) (by decide +kernel), by decide +kernel⟩⟩
theorem kc_X5_61 : kCV RX5 61 mX5_firstWith 2 := ⟨km_X5_firstWith, ⟨List.mem_of_getElem? (i := 485) (by decide +kernel), by decide +kernel⟩, ⟨List.mem_of_getElem? (i := 487) (by decide +kernel), by decide +kernel⟩, ⟨List.mem_of_getElem? (i := 10) (by decide +kernel), by decide +kernel⟩⟩
theorem fg_X5_9 : kGet RX5 9 5 0 := ⟨_, _, _, _, kcl_5, by decide, ⟨List.mem_of_getElem? (i := 202) (by decide +kernel), by decide +kernel⟩⟩
theorem kc_X5_21 : kCSN RX5 21 mX6_fill 2 := ⟨km_X6_fill, ⟨"LeastKnown", List.mem_of_getElem? (i := 199) (by decide +kernel)⟩, ⟨List.mem_of_getElem? (i := 200) (by decide +kernel), by decide +kernel⟩⟩
theorem fg_X5_15 : kGet RX5 15 5 1 := ⟨_, _, _, _, kcl_5, by decide, ⟨List.mem_of_getElem? (i := 204) (by decide +kernel), by decide +kernel⟩⟩
theorem fp_X5_25 (name : String) : kPut RX5 name 25 5 2 (.int) := ⟨_, _, _, _, kcl_5, by decide, ⟨List.mem_of_getElem? (i := 208) (by decide +kernel), by decide +kernel⟩, rfl, Or.inl rfl⟩
theorem fp_X5_29 (name : String) : kPut RX5 name 29 5 3 (.int) := ⟨_, _, _, _, kcl_5, by decide, ⟨List.mem_of_getElem? (i := 213) (by decide +kernel), by decide +kernel⟩, rfl, Or.inl rfl⟩
theorem fp_X5_32 (name : String) : kPut RX5 name 32 5 4 (.int) := ⟨_, _, _, _, kcl_5, by decide, ⟨List.mem_of_getElem? (i := 217) (by decide +kernel), by decide +kernel⟩, rfl, Or.inl rfl⟩
theorem fp_X5_35 (name : String) : kPut RX5 name 35 5 5 (.int) := ⟨_, _, _, _, kcl_5, by decide, ⟨List.mem_of_getElem? (i := 220) (by decide +kernel), by decide +kernel⟩, rfl, Or.inl rfl⟩
theorem fg_X5_25 : kGet RX5 25 5 2 := ⟨_, _, _, _, kcl_5, by decide, ⟨List.mem_of_getElem? (i := 208) (by decide +kernel), by decide +kernel⟩⟩
theorem kc_X5_38 : kCSN RX5 38 mX6_at 2 := ⟨km_X6_at, ⟨"LeastKnown", List.mem_of_getElem? (i := 424) (by decide +kernel)⟩, ⟨List.mem_of_getElem? (i := 241) (by decide +kernel), by decide +kernel⟩⟩
theorem fg_X5_35 : kGet RX5 35 5 5 := ⟨_, _, _, _, kcl_5, by decide, ⟨List.mem_of_getElem? (i := 220) (by decide +kernel), by decide +kernel⟩⟩
theorem ko_X5_3 : kW (Cond.methodLink RX5 3 Lib.objectInit) ∧ kW (Cond.instanceMethod Lib.objectInit) ∧ kW (Cond.code Lib.objectInit ⟨#[0xb1]⟩ 1 none) := ⟨⟨List.mem_of_getElem? (i := 194) (by decide +kernel), by decide +kernel⟩, ⟨List.mem_of_getElem? (i := 72) (by decide +kernel), by decide +kernel⟩, ⟨List.mem_of_getElem? (i := 73) (by decide +kernel), by decide +kernel⟩⟩
theorem fp_X5_9 : kPut RX5 "<init>" 9 5 0 (.array .int) := ⟨_, _, _, _, kcl_5, by decide, ⟨List.mem_of_getElem? (i := 202) (by decide +kernel), by decide +kernel⟩, rfl, Or.inr ⟨rfl, rfl, rfl⟩⟩
theorem fp_X5_15 : kPut RX5 "<init>" 15 5 1 (.array .int) := ⟨_, _, _, _, kcl_5, by decide, ⟨List.mem_of_getElem? (i := 204) (by decide +kernel), by decide +kernel⟩, rfl, Or.inr ⟨rfl, rfl, rfl⟩⟩
theorem kc_X5_18 : kCV RX5 18 mX5_empty 0 := ⟨km_X5_empty, ⟨List.mem_of_getElem? (i := 195) (by decide +kernel), by decide +kernel⟩, ⟨List.mem_of_getElem? (i := 196) (by decide +kernel), by decide +kernel⟩, ⟨List.mem_of_getElem? (i := 197) (by decide +kernel), by decide +kernel⟩⟩
theorem kc_X5_42 : kCSN RX5 42 mX6_put 3 := ⟨km_X6_put, ⟨"LeastKnown", List.mem_of_getElem? (i := 425) (by decide +kernel)⟩, ⟨List.mem_of_getElem? (i := 248) (by decide +kernel), by decide +kernel⟩⟩
theorem fg_X6_26 : kGet RX6 26 6 2 := ⟨_, _, _, _, kcl_6, by decide, ⟨List.mem_of_getElem? (i := 259) (by decide +kernel), by decide +kernel⟩⟩
theorem fg_X6_134 : kGet RX6 134 2 5 := ⟨_, _, _, _, kcl_2, by decide, ⟨List.mem_of_getElem? (i := 132) (by decide +kernel), by decide +kernel⟩⟩
theorem fg_X6_50 : kGet RX6 50 6 6 := ⟨_, _, _, _, kcl_6, by decide, ⟨List.mem_of_getElem? (i := 263) (by decide +kernel), by decide +kernel⟩⟩
theorem kc_X6_57 : kCV RX6 57 mX2_begin 1 := ⟨km_X2_begin, ⟨List.mem_of_getElem? (i := 236) (by decide +kernel), by decide +kernel⟩, ⟨List.mem_of_getElem? (i := 237) (by decide +kernel), by decide +kernel⟩, ⟨List.mem_of_getElem? (i := 238) (by decide +kernel), by decide +kernel⟩⟩
theorem fg_X6_225 : kGet RX6 225 6 8 := ⟨_, _, _, _, kcl_6, by decide, ⟨List.mem_of_getElem? (i := 265) (by decide +kernel), by decide +kernel⟩⟩
theorem kl_X6_235 : kW (Cond.constantLong RX6 235 (10000)) := ⟨List.mem_of_getElem? (i := 651) (by decide +kernel), by decide +kernel⟩
theorem fp_X6_225 (name : String) : kPut RX6 name 225 6 8 (.long) := ⟨_, _, _, _, kcl_6, by decide, ⟨List.mem_of_getElem? (i := 265) (by decide +kernel), by decide +kernel⟩, rfl, Or.inl rfl⟩
theorem kc_X6_196 : kCV RX6 196 mX6_asShy 1 := ⟨km_X6_asShy, ⟨List.mem_of_getElem? (i := 632) (by decide +kernel), by decide +kernel⟩, ⟨List.mem_of_getElem? (i := 634) (by decide +kernel), by decide +kernel⟩, ⟨List.mem_of_getElem? (i := 16) (by decide +kernel), by decide +kernel⟩⟩
theorem kl_X6_231 : kW (Cond.constantLong RX6 231 (100)) := ⟨List.mem_of_getElem? (i := 641) (by decide +kernel), by decide +kernel⟩
theorem kc_X6_193 : kCV RX6 193 mX6_asPerson 1 := ⟨km_X6_asPerson, ⟨List.mem_of_getElem? (i := 628) (by decide +kernel), by decide +kernel⟩, ⟨List.mem_of_getElem? (i := 630) (by decide +kernel), by decide +kernel⟩, ⟨List.mem_of_getElem? (i := 15) (by decide +kernel), by decide +kernel⟩⟩
theorem fg_X6_108 : kGet RX6 108 2 3 := ⟨_, _, _, _, kcl_2, by decide, ⟨List.mem_of_getElem? (i := 128) (by decide +kernel), by decide +kernel⟩⟩
theorem kc_X6_97 : kCS RX6 97 mX6_at 2 := ⟨km_X6_at, ⟨List.mem_of_getElem? (i := 456) (by decide +kernel), by decide +kernel⟩, ⟨List.mem_of_getElem? (i := 241) (by decide +kernel), by decide +kernel⟩⟩
theorem kl_X6_233 : kW (Cond.constantLong RX6 233 (1000)) := ⟨List.mem_of_getElem? (i := 646) (by decide +kernel), by decide +kernel⟩
theorem kc_X6_199 : kCV RX6 199 mX6_asKnown 1 := ⟨km_X6_asKnown, ⟨List.mem_of_getElem? (i := 637) (by decide +kernel), by decide +kernel⟩, ⟨List.mem_of_getElem? (i := 639) (by decide +kernel), by decide +kernel⟩, ⟨List.mem_of_getElem? (i := 17) (by decide +kernel), by decide +kernel⟩⟩
theorem fg_X6_93 : kGet RX6 93 2 1 := ⟨_, _, _, _, kcl_2, by decide, ⟨List.mem_of_getElem? (i := 125) (by decide +kernel), by decide +kernel⟩⟩
theorem kl_X6_229 : kW (Cond.constantLong RX6 229 (10)) := ⟨List.mem_of_getElem? (i := 636) (by decide +kernel), by decide +kernel⟩
theorem kc_X6_101 : kCV RX6 101 mX2_acquaintances 1 := ⟨km_X2_acquaintances, ⟨List.mem_of_getElem? (i := 457) (by decide +kernel), by decide +kernel⟩, ⟨List.mem_of_getElem? (i := 458) (by decide +kernel), by decide +kernel⟩, ⟨List.mem_of_getElem? (i := 459) (by decide +kernel), by decide +kernel⟩⟩
theorem kl_X6_237 : kW (Cond.constantLong RX6 237 (100000)) := ⟨List.mem_of_getElem? (i := 656) (by decide +kernel), by decide +kernel⟩
theorem kc_X6_89 : kCV RX6 89 mX6_isPerson 1 := ⟨km_X6_isPerson, ⟨List.mem_of_getElem? (i := 435) (by decide +kernel), by decide +kernel⟩, ⟨List.mem_of_getElem? (i := 437) (by decide +kernel), by decide +kernel⟩, ⟨List.mem_of_getElem? (i := 9) (by decide +kernel), by decide +kernel⟩⟩
theorem fg_X6_120 : kGet RX6 120 5 2 := ⟨_, _, _, _, kcl_5, by decide, ⟨List.mem_of_getElem? (i := 211) (by decide +kernel), by decide +kernel⟩⟩
theorem kc_X6_178 : kCV RX6 178 mX2_fewestAsks 3 := ⟨km_X2_fewestAsks, ⟨List.mem_of_getElem? (i := 606) (by decide +kernel), by decide +kernel⟩, ⟨List.mem_of_getElem? (i := 607) (by decide +kernel), by decide +kernel⟩, ⟨List.mem_of_getElem? (i := 608) (by decide +kernel), by decide +kernel⟩⟩
theorem kc_X6_161 : kCS RX6 161 mX6_isChoice 1 := ⟨km_X6_isChoice, ⟨List.mem_of_getElem? (i := 574) (by decide +kernel), by decide +kernel⟩, ⟨List.mem_of_getElem? (i := 575) (by decide +kernel), by decide +kernel⟩⟩
theorem kc_X6_211 : kCV RX6 211 mX6_imageOf 1 := ⟨km_X6_imageOf, ⟨List.mem_of_getElem? (i := 661) (by decide +kernel), by decide +kernel⟩, ⟨List.mem_of_getElem? (i := 663) (by decide +kernel), by decide +kernel⟩, ⟨List.mem_of_getElem? (i := 21) (by decide +kernel), by decide +kernel⟩⟩
theorem fg_X6_73 : kGet RX6 73 1 1 := ⟨_, _, _, _, kcl_1, by decide, ⟨List.mem_of_getElem? (i := 160) (by decide +kernel), by decide +kernel⟩⟩
theorem fg_X6_215 : kGet RX6 215 1 0 := ⟨_, _, _, _, kcl_1, by decide, ⟨List.mem_of_getElem? (i := 159) (by decide +kernel), by decide +kernel⟩⟩
theorem kc_X6_218 : kCV RX6 218 mX2_copyFrom 1 := ⟨km_X2_copyFrom, ⟨List.mem_of_getElem? (i := 665) (by decide +kernel), by decide +kernel⟩, ⟨List.mem_of_getElem? (i := 549) (by decide +kernel), by decide +kernel⟩, ⟨List.mem_of_getElem? (i := 550) (by decide +kernel), by decide +kernel⟩⟩
theorem fg_X6_43 : kGet RX6 43 6 5 := ⟨_, _, _, _, kcl_6, by decide, ⟨List.mem_of_getElem? (i := 262) (by decide +kernel), by decide +kernel⟩⟩
theorem kc_X6_164 : kCV RX6 164 mX0_fewestPairs 4 := ⟨km_X0_fewestPairs, ⟨List.mem_of_getElem? (i := 577) (by decide +kernel), by decide +kernel⟩, ⟨List.mem_of_getElem? (i := 578) (by decide +kernel), by decide +kernel⟩, ⟨List.mem_of_getElem? (i := 579) (by decide +kernel), by decide +kernel⟩⟩
theorem fg_X6_168 : kGet RX6 168 0 0 := ⟨_, _, _, _, kcl_0, by decide, ⟨List.mem_of_getElem? (i := 175) (by decide +kernel), by decide +kernel⟩⟩
theorem kc_X6_123 : kCV RX6 123 mX5_choose 1 := ⟨km_X5_choose, ⟨List.mem_of_getElem? (i := 474) (by decide +kernel), by decide +kernel⟩, ⟨List.mem_of_getElem? (i := 475) (by decide +kernel), by decide +kernel⟩, ⟨List.mem_of_getElem? (i := 476) (by decide +kernel), by decide +kernel⟩⟩
theorem fg_X6_10 : kGet RX6 10 6 0 := ⟨_, _, _, _, kcl_6, by decide, ⟨List.mem_of_getElem? (i := 257) (by decide +kernel), by decide +kernel⟩⟩
theorem fg_X6_61 : kGet RX6 61 4 1 := ⟨_, _, _, _, kcl_4, by decide, ⟨List.mem_of_getElem? (i := 82) (by decide +kernel), by decide +kernel⟩⟩
theorem fp_X6_61 (name : String) : kPut RX6 name 61 4 1 (.int) := ⟨_, _, _, _, kcl_4, by decide, ⟨List.mem_of_getElem? (i := 82) (by decide +kernel), by decide +kernel⟩, rfl, Or.inl rfl⟩
theorem kc_X6_149 : kCV RX6 149 mX2_allCounts 0 := ⟨km_X2_allCounts, ⟨List.mem_of_getElem? (i := 532) (by decide +kernel), by decide +kernel⟩, ⟨List.mem_of_getElem? (i := 533) (by decide +kernel), by decide +kernel⟩, ⟨List.mem_of_getElem? (i := 534) (by decide +kernel), by decide +kernel⟩⟩
theorem kc_X6_222 : kCV RX6 222 mX5_habits 0 := ⟨km_X5_habits, ⟨List.mem_of_getElem? (i := 674) (by decide +kernel), by decide +kernel⟩, ⟨List.mem_of_getElem? (i := 675) (by decide +kernel), by decide +kernel⟩, ⟨List.mem_of_getElem? (i := 676) (by decide +kernel), by decide +kernel⟩⟩
theorem kc_X6_171 : kCV RX6 171 mX0_lastDays 5 := ⟨km_X0_lastDays, ⟨List.mem_of_getElem? (i := 594) (by decide +kernel), by decide +kernel⟩, ⟨List.mem_of_getElem? (i := 595) (by decide +kernel), by decide +kernel⟩, ⟨List.mem_of_getElem? (i := 596) (by decide +kernel), by decide +kernel⟩⟩
theorem fg_X6_175 : kGet RX6 175 0 1 := ⟨_, _, _, _, kcl_0, by decide, ⟨List.mem_of_getElem? (i := 177) (by decide +kernel), by decide +kernel⟩⟩
theorem kc_X6_137 : kCS RX6 137 mJ9_min_7cf53 2 := ⟨km_J9_min_7cf53, ⟨List.mem_of_getElem? (i := 510) (by decide +kernel), by decide +kernel⟩, ⟨List.mem_of_getElem? (i := 511) (by decide +kernel), by decide +kernel⟩⟩
theorem kc_X6_142 : kCV RX6 142 mX2_spring 1 := ⟨km_X2_spring, ⟨List.mem_of_getElem? (i := 513) (by decide +kernel), by decide +kernel⟩, ⟨List.mem_of_getElem? (i := 514) (by decide +kernel), by decide +kernel⟩, ⟨List.mem_of_getElem? (i := 515) (by decide +kernel), by decide +kernel⟩⟩
theorem fg_X6_146 : kGet RX6 146 2 6 := ⟨_, _, _, _, kcl_2, by decide, ⟨List.mem_of_getElem? (i := 134) (by decide +kernel), by decide +kernel⟩⟩
theorem fg_X6_33 : kGet RX6 33 6 3 := ⟨_, _, _, _, kcl_6, by decide, ⟨List.mem_of_getElem? (i := 260) (by decide +kernel), by decide +kernel⟩⟩
theorem fg_X6_37 : kGet RX6 37 6 4 := ⟨_, _, _, _, kcl_6, by decide, ⟨List.mem_of_getElem? (i := 261) (by decide +kernel), by decide +kernel⟩⟩
theorem ko_X6_1 : kW (Cond.methodLink RX6 1 Lib.objectInit) ∧ kW (Cond.instanceMethod Lib.objectInit) ∧ kW (Cond.code Lib.objectInit ⟨#[0xb1]⟩ 1 none) := ⟨⟨List.mem_of_getElem? (i := 71) (by decide +kernel), by decide +kernel⟩, ⟨List.mem_of_getElem? (i := 72) (by decide +kernel), by decide +kernel⟩, ⟨List.mem_of_getElem? (i := 73) (by decide +kernel), by decide +kernel⟩⟩
theorem kn_X6_7 : kNew RX6 7 4 2 [.null, .int 0] := ⟨_, _, _, kcl_4, ⟨List.mem_of_getElem? (i := 74) (by decide +kernel), by decide +kernel⟩, ⟨List.mem_of_getElem? (i := 75) (by decide +kernel), by decide +kernel⟩, ⟨List.mem_of_getElem? (i := 53) (by decide +kernel), by decide +kernel⟩, by decide +kernel⟩
theorem kc_X6_9 : kCIN RX6 9 mX4_init 0 := ⟨km_X4_init, ⟨"LeastKnown", List.mem_of_getElem? (i := 76) (by decide +kernel)⟩, ⟨List.mem_of_getElem? (i := 77) (by decide +kernel), by decide +kernel⟩, rfl, rfl⟩
theorem fp_X6_10 : kPut RX6 "<init>" 10 6 0 (.object "LeastKnown$Text") := ⟨_, _, _, _, kcl_6, by decide, ⟨List.mem_of_getElem? (i := 257) (by decide +kernel), by decide +kernel⟩, rfl, Or.inr ⟨rfl, rfl, rfl⟩⟩
theorem kn_X6_16 : kNew RX6 16 3 6 [.null, .null, .int 0, .int 0, .int 0, .int 0] := ⟨_, _, _, kcl_3, ⟨List.mem_of_getElem? (i := 90) (by decide +kernel), by decide +kernel⟩, ⟨List.mem_of_getElem? (i := 91) (by decide +kernel), by decide +kernel⟩, ⟨List.mem_of_getElem? (i := 54) (by decide +kernel), by decide +kernel⟩, by decide +kernel⟩
theorem kc_X6_18 : kCIN RX6 18 mX3_init 0 := ⟨km_X3_init, ⟨"LeastKnown", List.mem_of_getElem? (i := 92) (by decide +kernel)⟩, ⟨List.mem_of_getElem? (i := 93) (by decide +kernel), by decide +kernel⟩, rfl, rfl⟩
theorem fp_X6_19 : kPut RX6 "<init>" 19 6 1 (.object "LeastKnown$Reader") := ⟨_, _, _, _, kcl_6, by decide, ⟨List.mem_of_getElem? (i := 258) (by decide +kernel), by decide +kernel⟩, rfl, Or.inr ⟨rfl, rfl, rfl⟩⟩
theorem kn_X6_23 : kNew RX6 23 2 7 [.null, .null, .null, .null, .int 0, .int 0, .int 0] := ⟨_, _, _, kcl_2, ⟨List.mem_of_getElem? (i := 115) (by decide +kernel), by decide +kernel⟩, ⟨List.mem_of_getElem? (i := 116) (by decide +kernel), by decide +kernel⟩, ⟨List.mem_of_getElem? (i := 55) (by decide +kernel), by decide +kernel⟩, by decide +kernel⟩
theorem kc_X6_25 : kCIN RX6 25 mX2_init 0 := ⟨km_X2_init, ⟨"LeastKnown", List.mem_of_getElem? (i := 117) (by decide +kernel)⟩, ⟨List.mem_of_getElem? (i := 118) (by decide +kernel), by decide +kernel⟩, rfl, rfl⟩
theorem fp_X6_26 : kPut RX6 "<init>" 26 6 2 (.object "LeastKnown$Now") := ⟨_, _, _, _, kcl_6, by decide, ⟨List.mem_of_getElem? (i := 259) (by decide +kernel), by decide +kernel⟩, rfl, Or.inr ⟨rfl, rfl, rfl⟩⟩
theorem kn_X6_30 : kNew RX6 30 1 2 [.null, .int 0] := ⟨_, _, _, kcl_1, ⟨List.mem_of_getElem? (i := 150) (by decide +kernel), by decide +kernel⟩, ⟨List.mem_of_getElem? (i := 151) (by decide +kernel), by decide +kernel⟩, ⟨List.mem_of_getElem? (i := 56) (by decide +kernel), by decide +kernel⟩, by decide +kernel⟩
theorem kc_X6_32 : kCIN RX6 32 mX1_init 0 := ⟨km_X1_init, ⟨"LeastKnown", List.mem_of_getElem? (i := 152) (by decide +kernel)⟩, ⟨List.mem_of_getElem? (i := 153) (by decide +kernel), by decide +kernel⟩, rfl, rfl⟩
theorem fp_X6_33 : kPut RX6 "<init>" 33 6 3 (.object "LeastKnown$Image") := ⟨_, _, _, _, kcl_6, by decide, ⟨List.mem_of_getElem? (i := 260) (by decide +kernel), by decide +kernel⟩, rfl, Or.inr ⟨rfl, rfl, rfl⟩⟩
theorem fp_X6_37 : kPut RX6 "<init>" 37 6 4 (.object "LeastKnown$Image") := ⟨_, _, _, _, kcl_6, by decide, ⟨List.mem_of_getElem? (i := 261) (by decide +kernel), by decide +kernel⟩, rfl, Or.inr ⟨rfl, rfl, rfl⟩⟩
theorem kn_X6_40 : kNew RX6 40 0 4 [.null, .int 0, .null, .null] := ⟨_, _, _, kcl_0, ⟨List.mem_of_getElem? (i := 166) (by decide +kernel), by decide +kernel⟩, ⟨List.mem_of_getElem? (i := 167) (by decide +kernel), by decide +kernel⟩, ⟨List.mem_of_getElem? (i := 57) (by decide +kernel), by decide +kernel⟩, by decide +kernel⟩
theorem kc_X6_42 : kCIN RX6 42 mX0_init 0 := ⟨km_X0_init, ⟨"LeastKnown", List.mem_of_getElem? (i := 168) (by decide +kernel)⟩, ⟨List.mem_of_getElem? (i := 169) (by decide +kernel), by decide +kernel⟩, rfl, rfl⟩
theorem fp_X6_43 : kPut RX6 "<init>" 43 6 5 (.object "LeastKnown$Foretelling") := ⟨_, _, _, _, kcl_6, by decide, ⟨List.mem_of_getElem? (i := 262) (by decide +kernel), by decide +kernel⟩, rfl, Or.inr ⟨rfl, rfl, rfl⟩⟩
theorem kn_X6_47 : kNew RX6 47 5 6 [.null, .null, .int 0, .int 0, .int 0, .int 0] := ⟨_, _, _, kcl_5, ⟨List.mem_of_getElem? (i := 189) (by decide +kernel), by decide +kernel⟩, ⟨List.mem_of_getElem? (i := 190) (by decide +kernel), by decide +kernel⟩, ⟨List.mem_of_getElem? (i := 58) (by decide +kernel), by decide +kernel⟩, by decide +kernel⟩
theorem kc_X6_49 : kCI RX6 49 mX5_init 0 := ⟨km_X5_init, ⟨List.mem_of_getElem? (i := 191) (by decide +kernel), by decide +kernel⟩, ⟨List.mem_of_getElem? (i := 192) (by decide +kernel), by decide +kernel⟩, rfl, rfl⟩
theorem fp_X6_50 (name : String) : kPut RX6 name 50 6 6 (.object "LeastKnown$Town") := ⟨_, _, _, _, kcl_6, by decide, ⟨List.mem_of_getElem? (i := 263) (by decide +kernel), by decide +kernel⟩, rfl, Or.inl rfl⟩
theorem fp_X6_54 (name : String) : kPut RX6 name 54 6 7 (.object "LeastKnown$Town") := ⟨_, _, _, _, kcl_6, by decide, ⟨List.mem_of_getElem? (i := 264) (by decide +kernel), by decide +kernel⟩, rfl, Or.inl rfl⟩
theorem kc_X6_77 : kCV RX6 77 mX6_isPair 2 := ⟨km_X6_isPair, ⟨List.mem_of_getElem? (i := 431) (by decide +kernel), by decide +kernel⟩, ⟨List.mem_of_getElem? (i := 433) (by decide +kernel), by decide +kernel⟩, ⟨List.mem_of_getElem? (i := 8) (by decide +kernel), by decide +kernel⟩⟩
theorem kc_X6_81 : kCV RX6 81 mX2_isAware 2 := ⟨km_X2_isAware, ⟨List.mem_of_getElem? (i := 439) (by decide +kernel), by decide +kernel⟩, ⟨List.mem_of_getElem? (i := 440) (by decide +kernel), by decide +kernel⟩, ⟨List.mem_of_getElem? (i := 441) (by decide +kernel), by decide +kernel⟩⟩
theorem kc_X6_127 : kCV RX6 127 mX2_learn 2 := ⟨km_X2_learn, ⟨List.mem_of_getElem? (i := 493) (by decide +kernel), by decide +kernel⟩, ⟨List.mem_of_getElem? (i := 494) (by decide +kernel), by decide +kernel⟩, ⟨List.mem_of_getElem? (i := 495) (by decide +kernel), by decide +kernel⟩⟩
theorem fp_X6_73 (name : String) : kPut RX6 name 73 1 1 (.boolean) := ⟨_, _, _, _, kcl_1, by decide, ⟨List.mem_of_getElem? (i := 160) (by decide +kernel), by decide +kernel⟩, rfl, Or.inl rfl⟩
theorem fg_X6_111 : kGet RX6 111 5 4 := ⟨_, _, _, _, kcl_5, by decide, ⟨List.mem_of_getElem? (i := 218) (by decide +kernel), by decide +kernel⟩⟩
theorem fg_X6_114 : kGet RX6 114 5 5 := ⟨_, _, _, _, kcl_5, by decide, ⟨List.mem_of_getElem? (i := 221) (by decide +kernel), by decide +kernel⟩⟩
theorem fg_X6_117 : kGet RX6 117 5 3 := ⟨_, _, _, _, kcl_5, by decide, ⟨List.mem_of_getElem? (i := 214) (by decide +kernel), by decide +kernel⟩⟩
theorem kc_X6_130 : kCV RX6 130 mX2_setKnowers 2 := ⟨km_X2_setKnowers, ⟨List.mem_of_getElem? (i := 505) (by decide +kernel), by decide +kernel⟩, ⟨List.mem_of_getElem? (i := 244) (by decide +kernel), by decide +kernel⟩, ⟨List.mem_of_getElem? (i := 245) (by decide +kernel), by decide +kernel⟩⟩
theorem kc_X6_182 : kCV RX6 182 mX5_everyone 0 := ⟨km_X5_everyone, ⟨List.mem_of_getElem? (i := 614) (by decide +kernel), by decide +kernel⟩, ⟨List.mem_of_getElem? (i := 479) (by decide +kernel), by decide +kernel⟩, ⟨List.mem_of_getElem? (i := 480) (by decide +kernel), by decide +kernel⟩⟩
theorem kc_X6_188 : kCS RX6 188 mJ6_bitCount_0f7a4 1 := ⟨km_J6_bitCount_0f7a4, ⟨List.mem_of_getElem? (i := 623) (by decide +kernel), by decide +kernel⟩, ⟨List.mem_of_getElem? (i := 251) (by decide +kernel), by decide +kernel⟩⟩
theorem kc_X6_185 : kCV RX6 185 mX2_isParty 1 := ⟨km_X2_isParty, ⟨List.mem_of_getElem? (i := 615) (by decide +kernel), by decide +kernel⟩, ⟨List.mem_of_getElem? (i := 616) (by decide +kernel), by decide +kernel⟩, ⟨List.mem_of_getElem? (i := 617) (by decide +kernel), by decide +kernel⟩⟩
theorem fg_X6_105 : kGet RX6 105 5 1 := ⟨_, _, _, _, kcl_5, by decide, ⟨List.mem_of_getElem? (i := 205) (by decide +kernel), by decide +kernel⟩⟩
theorem kl_X6_84 : kW (Cond.constant RX6 84 (-1000000)) := ⟨List.mem_of_getElem? (i := 447) (by decide +kernel), by decide +kernel⟩
theorem kc_X6_202 : kCV RX6 202 mX6_asMayor 1 := ⟨km_X6_asMayor, ⟨List.mem_of_getElem? (i := 642) (by decide +kernel), by decide +kernel⟩, ⟨List.mem_of_getElem? (i := 644) (by decide +kernel), by decide +kernel⟩, ⟨List.mem_of_getElem? (i := 18) (by decide +kernel), by decide +kernel⟩⟩
theorem kc_X6_205 : kCV RX6 205 mX6_asHermit 1 := ⟨km_X6_asHermit, ⟨List.mem_of_getElem? (i := 647) (by decide +kernel), by decide +kernel⟩, ⟨List.mem_of_getElem? (i := 649) (by decide +kernel), by decide +kernel⟩, ⟨List.mem_of_getElem? (i := 19) (by decide +kernel), by decide +kernel⟩⟩
theorem kc_X6_208 : kCV RX6 208 mX6_asStranger 1 := ⟨km_X6_asStranger, ⟨List.mem_of_getElem? (i := 652) (by decide +kernel), by decide +kernel⟩, ⟨List.mem_of_getElem? (i := 654) (by decide +kernel), by decide +kernel⟩, ⟨List.mem_of_getElem? (i := 20) (by decide +kernel), by decide +kernel⟩⟩
theorem kc_X6_153 : kCV RX6 153 mX0_rulerAhead 3 := ⟨km_X0_rulerAhead, ⟨List.mem_of_getElem? (i := 544) (by decide +kernel), by decide +kernel⟩, ⟨List.mem_of_getElem? (i := 545) (by decide +kernel), by decide +kernel⟩, ⟨List.mem_of_getElem? (i := 546) (by decide +kernel), by decide +kernel⟩⟩
theorem kc_X6_157 : kCV RX6 157 mX0_leastRing 2 := ⟨km_X0_leastRing, ⟨List.mem_of_getElem? (i := 560) (by decide +kernel), by decide +kernel⟩, ⟨List.mem_of_getElem? (i := 561) (by decide +kernel), by decide +kernel⟩, ⟨List.mem_of_getElem? (i := 562) (by decide +kernel), by decide +kernel⟩⟩
theorem fp_X6_111 (name : String) : kPut RX6 name 111 5 4 (.int) := ⟨_, _, _, _, kcl_5, by decide, ⟨List.mem_of_getElem? (i := 218) (by decide +kernel), by decide +kernel⟩, rfl, Or.inl rfl⟩
theorem fp_X6_114 (name : String) : kPut RX6 name 114 5 5 (.int) := ⟨_, _, _, _, kcl_5, by decide, ⟨List.mem_of_getElem? (i := 221) (by decide +kernel), by decide +kernel⟩, rfl, Or.inl rfl⟩
theorem kc_X6_85 : kCV RX6 85 mX2_sight 2 := ⟨km_X2_sight, ⟨List.mem_of_getElem? (i := 448) (by decide +kernel), by decide +kernel⟩, ⟨List.mem_of_getElem? (i := 449) (by decide +kernel), by decide +kernel⟩, ⟨List.mem_of_getElem? (i := 450) (by decide +kernel), by decide +kernel⟩⟩
theorem fg_X6_19 : kGet RX6 19 6 1 := ⟨_, _, _, _, kcl_6, by decide, ⟨List.mem_of_getElem? (i := 258) (by decide +kernel), by decide +kernel⟩⟩
theorem fg_X6_54 : kGet RX6 54 6 7 := ⟨_, _, _, _, kcl_6, by decide, ⟨List.mem_of_getElem? (i := 264) (by decide +kernel), by decide +kernel⟩⟩
theorem kc_X6_69 : kCV RX6 69 mX3_read 2 := ⟨km_X3_read, ⟨List.mem_of_getElem? (i := 302) (by decide +kernel), by decide +kernel⟩, ⟨List.mem_of_getElem? (i := 303) (by decide +kernel), by decide +kernel⟩, ⟨List.mem_of_getElem? (i := 304) (by decide +kernel), by decide +kernel⟩⟩
theorem kc_X6_65 : kCV RX6 65 mX4_add 1 := ⟨km_X4_add, ⟨List.mem_of_getElem? (i := 289) (by decide +kernel), by decide +kernel⟩, ⟨List.mem_of_getElem? (i := 290) (by decide +kernel), by decide +kernel⟩, ⟨List.mem_of_getElem? (i := 291) (by decide +kernel), by decide +kernel⟩⟩
theorem kc_X7_197 : kCV RX7 197 mX7_whoOf 2 := ⟨km_X7_whoOf, ⟨List.mem_of_getElem? (i := 975) (by decide +kernel), by decide +kernel⟩, ⟨List.mem_of_getElem? (i := 977) (by decide +kernel), by decide +kernel⟩, ⟨List.mem_of_getElem? (i := 48) (by decide +kernel), by decide +kernel⟩⟩
theorem fg_X7_19 : kGet RX7 19 7 21 := ⟨_, _, _, _, kcl_7, by decide, ⟨List.mem_of_getElem? (i := 713) (by decide +kernel), by decide +kernel⟩⟩
theorem kl_X7_63 : kW (Cond.constantLong RX7 63 (256)) := ⟨List.mem_of_getElem? (i := 808) (by decide +kernel), by decide +kernel⟩
theorem fg_X7_73 : kGet RX7 73 7 4 := ⟨_, _, _, _, kcl_7, by decide, ⟨List.mem_of_getElem? (i := 696) (by decide +kernel), by decide +kernel⟩⟩
theorem kc_X7_76 : kCV RX7 76 mX7_byteAt 1 := ⟨km_X7_byteAt, ⟨List.mem_of_getElem? (i := 801) (by decide +kernel), by decide +kernel⟩, ⟨List.mem_of_getElem? (i := 803) (by decide +kernel), by decide +kernel⟩, ⟨List.mem_of_getElem? (i := 24) (by decide +kernel), by decide +kernel⟩⟩
theorem fp_X7_73 (name : String) : kPut RX7 name 73 7 4 (.int) := ⟨_, _, _, _, kcl_7, by decide, ⟨List.mem_of_getElem? (i := 696) (by decide +kernel), by decide +kernel⟩, rfl, Or.inl rfl⟩
theorem fp_X7_80 (name : String) : kPut RX7 name 80 7 6 (.int) := ⟨_, _, _, _, kcl_7, by decide, ⟨List.mem_of_getElem? (i := 698) (by decide +kernel), by decide +kernel⟩, rfl, Or.inl rfl⟩
theorem fp_X7_83 (name : String) : kPut RX7 name 83 7 5 (.int) := ⟨_, _, _, _, kcl_7, by decide, ⟨List.mem_of_getElem? (i := 697) (by decide +kernel), by decide +kernel⟩, rfl, Or.inl rfl⟩
theorem kc_X7_54 : kCS RX7 54 mX7_in 3 := ⟨km_X7_in, ⟨List.mem_of_getElem? (i := 785) (by decide +kernel), by decide +kernel⟩, ⟨List.mem_of_getElem? (i := 786) (by decide +kernel), by decide +kernel⟩⟩
theorem fg_X7_80 : kGet RX7 80 7 6 := ⟨_, _, _, _, kcl_7, by decide, ⟨List.mem_of_getElem? (i := 698) (by decide +kernel), by decide +kernel⟩⟩
theorem kc_X7_65 : kCS RX7 65 mX7_add 2 := ⟨km_X7_add, ⟨List.mem_of_getElem? (i := 805) (by decide +kernel), by decide +kernel⟩, ⟨List.mem_of_getElem? (i := 806) (by decide +kernel), by decide +kernel⟩⟩
theorem kc_X7_86 : kCS RX7 86 mX7_wordOf 1 := ⟨km_X7_wordOf, ⟨List.mem_of_getElem? (i := 809) (by decide +kernel), by decide +kernel⟩, ⟨List.mem_of_getElem? (i := 810) (by decide +kernel), by decide +kernel⟩⟩
theorem fp_X7_90 (name : String) : kPut RX7 name 90 7 7 (.int) := ⟨_, _, _, _, kcl_7, by decide, ⟨List.mem_of_getElem? (i := 699) (by decide +kernel), by decide +kernel⟩, rfl, Or.inl rfl⟩
theorem fg_X7_90 : kGet RX7 90 7 7 := ⟨_, _, _, _, kcl_7, by decide, ⟨List.mem_of_getElem? (i := 699) (by decide +kernel), by decide +kernel⟩⟩
theorem fp_X7_51 (name : String) : kPut RX7 name 51 7 0 (.int) := ⟨_, _, _, _, kcl_7, by decide, ⟨List.mem_of_getElem? (i := 692) (by decide +kernel), by decide +kernel⟩, rfl, Or.inl rfl⟩
theorem kc_X7_48 : kCV RX7 48 mX7_begins 0 := ⟨km_X7_begins, ⟨List.mem_of_getElem? (i := 688) (by decide +kernel), by decide +kernel⟩, ⟨List.mem_of_getElem? (i := 690) (by decide +kernel), by decide +kernel⟩, ⟨List.mem_of_getElem? (i := 22) (by decide +kernel), by decide +kernel⟩⟩
theorem kc_X7_146 : kCV RX7 146 mX7_isPerson 1 := ⟨km_X7_isPerson, ⟨List.mem_of_getElem? (i := 843) (by decide +kernel), by decide +kernel⟩, ⟨List.mem_of_getElem? (i := 845) (by decide +kernel), by decide +kernel⟩, ⟨List.mem_of_getElem? (i := 31) (by decide +kernel), by decide +kernel⟩⟩
theorem fg_X7_22 : kGet RX7 22 7 22 := ⟨_, _, _, _, kcl_7, by decide, ⟨List.mem_of_getElem? (i := 714) (by decide +kernel), by decide +kernel⟩⟩
theorem fg_X7_38 : kGet RX7 38 7 27 := ⟨_, _, _, _, kcl_7, by decide, ⟨List.mem_of_getElem? (i := 719) (by decide +kernel), by decide +kernel⟩⟩
theorem fg_X7_137 : kGet RX7 137 7 11 := ⟨_, _, _, _, kcl_7, by decide, ⟨List.mem_of_getElem? (i := 703) (by decide +kernel), by decide +kernel⟩⟩
theorem fg_X7_28 : kGet RX7 28 7 24 := ⟨_, _, _, _, kcl_7, by decide, ⟨List.mem_of_getElem? (i := 716) (by decide +kernel), by decide +kernel⟩⟩
theorem fg_X7_25 : kGet RX7 25 7 23 := ⟨_, _, _, _, kcl_7, by decide, ⟨List.mem_of_getElem? (i := 715) (by decide +kernel), by decide +kernel⟩⟩
theorem fg_X7_13 : kGet RX7 13 7 9 := ⟨_, _, _, _, kcl_7, by decide, ⟨List.mem_of_getElem? (i := 701) (by decide +kernel), by decide +kernel⟩⟩
theorem kc_X7_180 : kCV RX7 180 mX7_aside 1 := ⟨km_X7_aside, ⟨List.mem_of_getElem? (i := 927) (by decide +kernel), by decide +kernel⟩, ⟨List.mem_of_getElem? (i := 929) (by decide +kernel), by decide +kernel⟩, ⟨List.mem_of_getElem? (i := 39) (by decide +kernel), by decide +kernel⟩⟩
theorem kc_X7_193 : kCV RX7 193 mX7_bringsBy 3 := ⟨km_X7_bringsBy, ⟨List.mem_of_getElem? (i := 939) (by decide +kernel), by decide +kernel⟩, ⟨List.mem_of_getElem? (i := 941) (by decide +kernel), by decide +kernel⟩, ⟨List.mem_of_getElem? (i := 40) (by decide +kernel), by decide +kernel⟩⟩
theorem fg_X7_35 : kGet RX7 35 7 26 := ⟨_, _, _, _, kcl_7, by decide, ⟨List.mem_of_getElem? (i := 718) (by decide +kernel), by decide +kernel⟩⟩
theorem kc_X7_184 : kCV RX7 184 mX7_nextPair 1 := ⟨km_X7_nextPair, ⟨List.mem_of_getElem? (i := 943) (by decide +kernel), by decide +kernel⟩, ⟨List.mem_of_getElem? (i := 945) (by decide +kernel), by decide +kernel⟩, ⟨List.mem_of_getElem? (i := 41) (by decide +kernel), by decide +kernel⟩⟩
theorem kc_X7_187 : kCV RX7 187 mX7_meets 1 := ⟨km_X7_meets, ⟨List.mem_of_getElem? (i := 947) (by decide +kernel), by decide +kernel⟩, ⟨List.mem_of_getElem? (i := 949) (by decide +kernel), by decide +kernel⟩, ⟨List.mem_of_getElem? (i := 42) (by decide +kernel), by decide +kernel⟩⟩
theorem kc_X7_190 : kCV RX7 190 mX7_isSo 2 := ⟨km_X7_isSo, ⟨List.mem_of_getElem? (i := 951) (by decide +kernel), by decide +kernel⟩, ⟨List.mem_of_getElem? (i := 953) (by decide +kernel), by decide +kernel⟩, ⟨List.mem_of_getElem? (i := 43) (by decide +kernel), by decide +kernel⟩⟩
theorem fg_X7_58 : kGet RX7 58 7 3 := ⟨_, _, _, _, kcl_7, by decide, ⟨List.mem_of_getElem? (i := 695) (by decide +kernel), by decide +kernel⟩⟩
theorem fg_X7_7 : kGet RX7 7 7 2 := ⟨_, _, _, _, kcl_7, by decide, ⟨List.mem_of_getElem? (i := 694) (by decide +kernel), by decide +kernel⟩⟩
theorem kc_X7_167 : kCV RX7 167 mX7_chosenNow 0 := ⟨km_X7_chosenNow, ⟨List.mem_of_getElem? (i := 879) (by decide +kernel), by decide +kernel⟩, ⟨List.mem_of_getElem? (i := 881) (by decide +kernel), by decide +kernel⟩, ⟨List.mem_of_getElem? (i := 34) (by decide +kernel), by decide +kernel⟩⟩
theorem kc_X7_164 : kCV RX7 164 mX7_leastOf 1 := ⟨km_X7_leastOf, ⟨List.mem_of_getElem? (i := 883) (by decide +kernel), by decide +kernel⟩, ⟨List.mem_of_getElem? (i := 885) (by decide +kernel), by decide +kernel⟩, ⟨List.mem_of_getElem? (i := 35) (by decide +kernel), by decide +kernel⟩⟩
theorem fg_X7_143 : kGet RX7 143 7 15 := ⟨_, _, _, _, kcl_7, by decide, ⟨List.mem_of_getElem? (i := 707) (by decide +kernel), by decide +kernel⟩⟩
theorem kc_X7_158 : kCV RX7 158 mX7_countOf 1 := ⟨km_X7_countOf, ⟨List.mem_of_getElem? (i := 860) (by decide +kernel), by decide +kernel⟩, ⟨List.mem_of_getElem? (i := 862) (by decide +kernel), by decide +kernel⟩, ⟨List.mem_of_getElem? (i := 33) (by decide +kernel), by decide +kernel⟩⟩
theorem fg_X7_44 : kGet RX7 44 7 17 := ⟨_, _, _, _, kcl_7, by decide, ⟨List.mem_of_getElem? (i := 709) (by decide +kernel), by decide +kernel⟩⟩
theorem fp_X7_58 (name : String) : kPut RX7 name 58 7 3 (.int) := ⟨_, _, _, _, kcl_7, by decide, ⟨List.mem_of_getElem? (i := 695) (by decide +kernel), by decide +kernel⟩, rfl, Or.inl rfl⟩
theorem fg_X7_16 : kGet RX7 16 7 10 := ⟨_, _, _, _, kcl_7, by decide, ⟨List.mem_of_getElem? (i := 702) (by decide +kernel), by decide +kernel⟩⟩
theorem kc_X7_177 : kCV RX7 177 mX7_countAll 0 := ⟨km_X7_countAll, ⟨List.mem_of_getElem? (i := 915) (by decide +kernel), by decide +kernel⟩, ⟨List.mem_of_getElem? (i := 917) (by decide +kernel), by decide +kernel⟩, ⟨List.mem_of_getElem? (i := 38) (by decide +kernel), by decide +kernel⟩⟩
theorem kc_X7_214 : kCV RX7 214 mX7_firstDay 3 := ⟨km_X7_firstDay, ⟨List.mem_of_getElem? (i := 959) (by decide +kernel), by decide +kernel⟩, ⟨List.mem_of_getElem? (i := 961) (by decide +kernel), by decide +kernel⟩, ⟨List.mem_of_getElem? (i := 44) (by decide +kernel), by decide +kernel⟩⟩
theorem fg_X7_41 : kGet RX7 41 7 28 := ⟨_, _, _, _, kcl_7, by decide, ⟨List.mem_of_getElem? (i := 720) (by decide +kernel), by decide +kernel⟩⟩
theorem kc_X7_210 : kCV RX7 210 mX7_lastButOne 4 := ⟨km_X7_lastButOne, ⟨List.mem_of_getElem? (i := 963) (by decide +kernel), by decide +kernel⟩, ⟨List.mem_of_getElem? (i := 965) (by decide +kernel), by decide +kernel⟩, ⟨List.mem_of_getElem? (i := 45) (by decide +kernel), by decide +kernel⟩⟩
theorem kc_X7_200 : kCV RX7 200 mX7_asideOf 2 := ⟨km_X7_asideOf, ⟨List.mem_of_getElem? (i := 971) (by decide +kernel), by decide +kernel⟩, ⟨List.mem_of_getElem? (i := 973) (by decide +kernel), by decide +kernel⟩, ⟨List.mem_of_getElem? (i := 47) (by decide +kernel), by decide +kernel⟩⟩
theorem kc_X7_204 : kCV RX7 204 mX7_acts 3 := ⟨km_X7_acts, ⟨List.mem_of_getElem? (i := 979) (by decide +kernel), by decide +kernel⟩, ⟨List.mem_of_getElem? (i := 981) (by decide +kernel), by decide +kernel⟩, ⟨List.mem_of_getElem? (i := 49) (by decide +kernel), by decide +kernel⟩⟩
theorem kc_X7_174 : kCV RX7 174 mX7_springs 0 := ⟨km_X7_springs, ⟨List.mem_of_getElem? (i := 907) (by decide +kernel), by decide +kernel⟩, ⟨List.mem_of_getElem? (i := 909) (by decide +kernel), by decide +kernel⟩, ⟨List.mem_of_getElem? (i := 37) (by decide +kernel), by decide +kernel⟩⟩
theorem ko_X7_1 : kW (Cond.methodLink RX7 1 Lib.objectInit) ∧ kW (Cond.instanceMethod Lib.objectInit) ∧ kW (Cond.code Lib.objectInit ⟨#[0xb1]⟩ 1 none) := ⟨⟨List.mem_of_getElem? (i := 687) (by decide +kernel), by decide +kernel⟩, ⟨List.mem_of_getElem? (i := 72) (by decide +kernel), by decide +kernel⟩, ⟨List.mem_of_getElem? (i := 73) (by decide +kernel), by decide +kernel⟩⟩
theorem fp_X7_7 : kPut RX7 "<init>" 7 7 2 (.array .int) := ⟨_, _, _, _, kcl_7, by decide, ⟨List.mem_of_getElem? (i := 694) (by decide +kernel), by decide +kernel⟩, rfl, Or.inr ⟨rfl, rfl, rfl⟩⟩
theorem fp_X7_13 : kPut RX7 "<init>" 13 7 9 (.array .int) := ⟨_, _, _, _, kcl_7, by decide, ⟨List.mem_of_getElem? (i := 701) (by decide +kernel), by decide +kernel⟩, rfl, Or.inr ⟨rfl, rfl, rfl⟩⟩
theorem fp_X7_16 : kPut RX7 "<init>" 16 7 10 (.array .int) := ⟨_, _, _, _, kcl_7, by decide, ⟨List.mem_of_getElem? (i := 702) (by decide +kernel), by decide +kernel⟩, rfl, Or.inr ⟨rfl, rfl, rfl⟩⟩
theorem fp_X7_19 : kPut RX7 "<init>" 19 7 21 (.array .int) := ⟨_, _, _, _, kcl_7, by decide, ⟨List.mem_of_getElem? (i := 713) (by decide +kernel), by decide +kernel⟩, rfl, Or.inr ⟨rfl, rfl, rfl⟩⟩
theorem fp_X7_22 : kPut RX7 "<init>" 22 7 22 (.array .int) := ⟨_, _, _, _, kcl_7, by decide, ⟨List.mem_of_getElem? (i := 714) (by decide +kernel), by decide +kernel⟩, rfl, Or.inr ⟨rfl, rfl, rfl⟩⟩
theorem fp_X7_25 : kPut RX7 "<init>" 25 7 23 (.array .int) := ⟨_, _, _, _, kcl_7, by decide, ⟨List.mem_of_getElem? (i := 715) (by decide +kernel), by decide +kernel⟩, rfl, Or.inr ⟨rfl, rfl, rfl⟩⟩
theorem fp_X7_28 : kPut RX7 "<init>" 28 7 24 (.array .boolean) := ⟨_, _, _, _, kcl_7, by decide, ⟨List.mem_of_getElem? (i := 716) (by decide +kernel), by decide +kernel⟩, rfl, Or.inr ⟨rfl, rfl, rfl⟩⟩
theorem fp_X7_32 : kPut RX7 "<init>" 32 7 25 (.array .int) := ⟨_, _, _, _, kcl_7, by decide, ⟨List.mem_of_getElem? (i := 717) (by decide +kernel), by decide +kernel⟩, rfl, Or.inr ⟨rfl, rfl, rfl⟩⟩
theorem fp_X7_35 : kPut RX7 "<init>" 35 7 26 (.array .int) := ⟨_, _, _, _, kcl_7, by decide, ⟨List.mem_of_getElem? (i := 718) (by decide +kernel), by decide +kernel⟩, rfl, Or.inr ⟨rfl, rfl, rfl⟩⟩
theorem fp_X7_38 : kPut RX7 "<init>" 38 7 27 (.array .int) := ⟨_, _, _, _, kcl_7, by decide, ⟨List.mem_of_getElem? (i := 719) (by decide +kernel), by decide +kernel⟩, rfl, Or.inr ⟨rfl, rfl, rfl⟩⟩
theorem fp_X7_41 : kPut RX7 "<init>" 41 7 28 (.array .int) := ⟨_, _, _, _, kcl_7, by decide, ⟨List.mem_of_getElem? (i := 720) (by decide +kernel), by decide +kernel⟩, rfl, Or.inr ⟨rfl, rfl, rfl⟩⟩
theorem fp_X7_44 (name : String) : kPut RX7 name 44 7 17 (.int) := ⟨_, _, _, _, kcl_7, by decide, ⟨List.mem_of_getElem? (i := 709) (by decide +kernel), by decide +kernel⟩, rfl, Or.inl rfl⟩
theorem kc_X7_150 : kCV RX7 150 mX7_areTwo 2 := ⟨km_X7_areTwo, ⟨List.mem_of_getElem? (i := 839) (by decide +kernel), by decide +kernel⟩, ⟨List.mem_of_getElem? (i := 841) (by decide +kernel), by decide +kernel⟩, ⟨List.mem_of_getElem? (i := 30) (by decide +kernel), by decide +kernel⟩⟩
theorem kc_X7_154 : kCV RX7 154 mX7_isKnown 2 := ⟨km_X7_isKnown, ⟨List.mem_of_getElem? (i := 847) (by decide +kernel), by decide +kernel⟩, ⟨List.mem_of_getElem? (i := 849) (by decide +kernel), by decide +kernel⟩, ⟨List.mem_of_getElem? (i := 32) (by decide +kernel), by decide +kernel⟩⟩
theorem kc_X7_171 : kCV RX7 171 mX7_learns 2 := ⟨km_X7_learns, ⟨List.mem_of_getElem? (i := 891) (by decide +kernel), by decide +kernel⟩, ⟨List.mem_of_getElem? (i := 893) (by decide +kernel), by decide +kernel⟩, ⟨List.mem_of_getElem? (i := 36) (by decide +kernel), by decide +kernel⟩⟩
theorem fg_X7_93 : kGet RX7 93 7 8 := ⟨_, _, _, _, kcl_7, by decide, ⟨List.mem_of_getElem? (i := 700) (by decide +kernel), by decide +kernel⟩⟩
theorem kc_X7_207 : kCV RX7 207 mX7_lastDay 3 := ⟨km_X7_lastDay, ⟨List.mem_of_getElem? (i := 967) (by decide +kernel), by decide +kernel⟩, ⟨List.mem_of_getElem? (i := 969) (by decide +kernel), by decide +kernel⟩, ⟨List.mem_of_getElem? (i := 46) (by decide +kernel), by decide +kernel⟩⟩
theorem fg_X7_140 : kGet RX7 140 7 13 := ⟨_, _, _, _, kcl_7, by decide, ⟨List.mem_of_getElem? (i := 705) (by decide +kernel), by decide +kernel⟩⟩
theorem fg_X7_83 : kGet RX7 83 7 5 := ⟨_, _, _, _, kcl_7, by decide, ⟨List.mem_of_getElem? (i := 697) (by decide +kernel), by decide +kernel⟩⟩
theorem kc_X7_103 : kCV RX7 103 mX7_takes 1 := ⟨km_X7_takes, ⟨List.mem_of_getElem? (i := 819) (by decide +kernel), by decide +kernel⟩, ⟨List.mem_of_getElem? (i := 821) (by decide +kernel), by decide +kernel⟩, ⟨List.mem_of_getElem? (i := 26) (by decide +kernel), by decide +kernel⟩⟩
theorem kc_X7_161 : kCS RX7 161 mX7_ones 1 := ⟨km_X7_ones, ⟨List.mem_of_getElem? (i := 864) (by decide +kernel), by decide +kernel⟩, ⟨List.mem_of_getElem? (i := 865) (by decide +kernel), by decide +kernel⟩⟩
theorem kc_X7_217 : kCV RX7 217 mX7_isParty 1 := ⟨km_X7_isParty, ⟨List.mem_of_getElem? (i := 991) (by decide +kernel), by decide +kernel⟩, ⟨List.mem_of_getElem? (i := 993) (by decide +kernel), by decide +kernel⟩, ⟨List.mem_of_getElem? (i := 50) (by decide +kernel), by decide +kernel⟩⟩
theorem kl_X7_157 : kW (Cond.constant RX7 157 (-1000000)) := ⟨List.mem_of_getElem? (i := 855) (by decide +kernel), by decide +kernel⟩
theorem fg_X7_220 : kGet RX7 220 7 1 := ⟨_, _, _, _, kcl_7, by decide, ⟨List.mem_of_getElem? (i := 693) (by decide +kernel), by decide +kernel⟩⟩
theorem kl_X7_224 : kW (Cond.constantLong RX7 224 (11)) := ⟨List.mem_of_getElem? (i := 1003) (by decide +kernel), by decide +kernel⟩
theorem kl_X7_226 : kW (Cond.constantLong RX7 226 (101)) := ⟨List.mem_of_getElem? (i := 1004) (by decide +kernel), by decide +kernel⟩
theorem kl_X7_228 : kW (Cond.constantLong RX7 228 (1101)) := ⟨List.mem_of_getElem? (i := 1005) (by decide +kernel), by decide +kernel⟩
theorem kl_X7_230 : kW (Cond.constantLong RX7 230 (10011)) := ⟨List.mem_of_getElem? (i := 1006) (by decide +kernel), by decide +kernel⟩
theorem kl_X7_232 : kW (Cond.constantLong RX7 232 (100001)) := ⟨List.mem_of_getElem? (i := 1007) (by decide +kernel), by decide +kernel⟩
theorem fp_X7_220 (name : String) : kPut RX7 name 220 7 1 (.long) := ⟨_, _, _, _, kcl_7, by decide, ⟨List.mem_of_getElem? (i := 693) (by decide +kernel), by decide +kernel⟩, rfl, Or.inl rfl⟩
theorem fg_X7_107 : kGet RX7 107 7 12 := ⟨_, _, _, _, kcl_7, by decide, ⟨List.mem_of_getElem? (i := 704) (by decide +kernel), by decide +kernel⟩⟩
theorem fp_X7_107 (name : String) : kPut RX7 name 107 7 12 (.int) := ⟨_, _, _, _, kcl_7, by decide, ⟨List.mem_of_getElem? (i := 704) (by decide +kernel), by decide +kernel⟩, rfl, Or.inl rfl⟩
theorem kc_X7_110 : kCV RX7 110 mX7_number 2 := ⟨km_X7_number, ⟨List.mem_of_getElem? (i := 827) (by decide +kernel), by decide +kernel⟩, ⟨List.mem_of_getElem? (i := 829) (by decide +kernel), by decide +kernel⟩, ⟨List.mem_of_getElem? (i := 28) (by decide +kernel), by decide +kernel⟩⟩
theorem fp_X7_114 (name : String) : kPut RX7 name 114 7 14 (.int) := ⟨_, _, _, _, kcl_7, by decide, ⟨List.mem_of_getElem? (i := 706) (by decide +kernel), by decide +kernel⟩, rfl, Or.inl rfl⟩
theorem fp_X7_117 (name : String) : kPut RX7 name 117 7 19 (.boolean) := ⟨_, _, _, _, kcl_7, by decide, ⟨List.mem_of_getElem? (i := 711) (by decide +kernel), by decide +kernel⟩, rfl, Or.inl rfl⟩
theorem fp_X7_121 (name : String) : kPut RX7 name 121 7 16 (.int) := ⟨_, _, _, _, kcl_7, by decide, ⟨List.mem_of_getElem? (i := 708) (by decide +kernel), by decide +kernel⟩, rfl, Or.inl rfl⟩
theorem kc_X7_96 : kCV RX7 96 mX7_isWell 0 := ⟨km_X7_isWell, ⟨List.mem_of_getElem? (i := 815) (by decide +kernel), by decide +kernel⟩, ⟨List.mem_of_getElem? (i := 817) (by decide +kernel), by decide +kernel⟩, ⟨List.mem_of_getElem? (i := 25) (by decide +kernel), by decide +kernel⟩⟩
theorem fp_X7_124 (name : String) : kPut RX7 name 124 7 18 (.int) := ⟨_, _, _, _, kcl_7, by decide, ⟨List.mem_of_getElem? (i := 710) (by decide +kernel), by decide +kernel⟩, rfl, Or.inl rfl⟩
theorem fp_X7_127 (name : String) : kPut RX7 name 127 7 20 (.boolean) := ⟨_, _, _, _, kcl_7, by decide, ⟨List.mem_of_getElem? (i := 712) (by decide +kernel), by decide +kernel⟩, rfl, Or.inl rfl⟩
theorem kc_X7_130 : kCV RX7 130 mX7_readsTwo 1 := ⟨km_X7_readsTwo, ⟨List.mem_of_getElem? (i := 831) (by decide +kernel), by decide +kernel⟩, ⟨List.mem_of_getElem? (i := 833) (by decide +kernel), by decide +kernel⟩, ⟨List.mem_of_getElem? (i := 29) (by decide +kernel), by decide +kernel⟩⟩
theorem fg_X7_32 : kGet RX7 32 7 25 := ⟨_, _, _, _, kcl_7, by decide, ⟨List.mem_of_getElem? (i := 717) (by decide +kernel), by decide +kernel⟩⟩
theorem fp_X7_143 (name : String) : kPut RX7 name 143 7 15 (.int) := ⟨_, _, _, _, kcl_7, by decide, ⟨List.mem_of_getElem? (i := 707) (by decide +kernel), by decide +kernel⟩, rfl, Or.inl rfl⟩
theorem fp_X7_93 (name : String) : kPut RX7 name 93 7 8 (.int) := ⟨_, _, _, _, kcl_7, by decide, ⟨List.mem_of_getElem? (i := 700) (by decide +kernel), by decide +kernel⟩, rfl, Or.inl rfl⟩
theorem kc_X7_100 : kCV RX7 100 mX7_advances 0 := ⟨km_X7_advances, ⟨List.mem_of_getElem? (i := 797) (by decide +kernel), by decide +kernel⟩, ⟨List.mem_of_getElem? (i := 799) (by decide +kernel), by decide +kernel⟩, ⟨List.mem_of_getElem? (i := 23) (by decide +kernel), by decide +kernel⟩⟩
theorem fg_X7_117 : kGet RX7 117 7 19 := ⟨_, _, _, _, kcl_7, by decide, ⟨List.mem_of_getElem? (i := 711) (by decide +kernel), by decide +kernel⟩⟩
theorem fg_X7_127 : kGet RX7 127 7 20 := ⟨_, _, _, _, kcl_7, by decide, ⟨List.mem_of_getElem? (i := 712) (by decide +kernel), by decide +kernel⟩⟩
theorem kc_X7_134 : kCV RX7 134 mX7_readsItem 1 := ⟨km_X7_readsItem, ⟨List.mem_of_getElem? (i := 823) (by decide +kernel), by decide +kernel⟩, ⟨List.mem_of_getElem? (i := 825) (by decide +kernel), by decide +kernel⟩, ⟨List.mem_of_getElem? (i := 27) (by decide +kernel), by decide +kernel⟩⟩
theorem fp_X7_137 (name : String) : kPut RX7 name 137 7 11 (.int) := ⟨_, _, _, _, kcl_7, by decide, ⟨List.mem_of_getElem? (i := 703) (by decide +kernel), by decide +kernel⟩, rfl, Or.inl rfl⟩
theorem fg_X7_114 : kGet RX7 114 7 14 := ⟨_, _, _, _, kcl_7, by decide, ⟨List.mem_of_getElem? (i := 706) (by decide +kernel), by decide +kernel⟩⟩
theorem fp_X7_140 (name : String) : kPut RX7 name 140 7 13 (.int) := ⟨_, _, _, _, kcl_7, by decide, ⟨List.mem_of_getElem? (i := 705) (by decide +kernel), by decide +kernel⟩, rfl, Or.inl rfl⟩
theorem fg_X7_121 : kGet RX7 121 7 16 := ⟨_, _, _, _, kcl_7, by decide, ⟨List.mem_of_getElem? (i := 708) (by decide +kernel), by decide +kernel⟩⟩
theorem fg_X7_124 : kGet RX7 124 7 18 := ⟨_, _, _, _, kcl_7, by decide, ⟨List.mem_of_getElem? (i := 710) (by decide +kernel), by decide +kernel⟩⟩
theorem kl_X7_61 : kW (Cond.constantLong RX7 61 (255)) := ⟨List.mem_of_getElem? (i := 788) (by decide +kernel), by decide +kernel⟩
theorem kc_X7_69 : kCS RX7 69 mX7_named 6 := ⟨km_X7_named, ⟨List.mem_of_getElem? (i := 812) (by decide +kernel), by decide +kernel⟩, ⟨List.mem_of_getElem? (i := 813) (by decide +kernel), by decide +kernel⟩⟩

/-! what the tables say of methods: by program (gen_sound.py) -/
theorem rwX0_of : rowsOK mX0_of := rowsOK_of (by decide +kernel)
theorem okX0_of : MOK mX0_of := ⟨rwX0_of, wm 69 (by decide +kernel) rfl, wm 763 (by decide +kernel) rfl, ⟨by decide +kernel, by decide +kernel, by decide +kernel⟩, by decide +kernel, rfl, by decide, by decide⟩
theorem ocX0_of : MOKc mX0_of := ⟨okX0_of, rfl, wm 764 (by decide +kernel) rfl⟩
theorem rwX0_ruledOut : rowsOK mX0_ruledOut := rowsOK_of (by decide +kernel)
theorem okX0_ruledOut : MOK mX0_ruledOut := ⟨rwX0_ruledOut, wm 69 (by decide +kernel) rfl, wm 433 (by decide +kernel) rfl, ⟨by decide +kernel, by decide +kernel, by decide +kernel⟩, by decide +kernel, rfl, by decide, by decide⟩
theorem ocX0_ruledOut : MOKc mX0_ruledOut := ⟨okX0_ruledOut, rfl, wm 434 (by decide +kernel) rfl⟩
theorem rwX0_item : rowsOK mX0_item := rowsOK_of (by decide +kernel)
theorem okX0_item : MOK mX0_item := ⟨rwX0_item, wm 69 (by decide +kernel) rfl, wm 436 (by decide +kernel) rfl, ⟨by decide +kernel, by decide +kernel, by decide +kernel⟩, by decide +kernel, rfl, by decide, by decide⟩
theorem ocX0_item : MOKc mX0_item := ⟨okX0_item, rfl, wm 437 (by decide +kernel) rfl⟩
theorem rwX0_choices : rowsOK mX0_choices := rowsOK_of (by decide +kernel)
theorem okX0_choices : MOK mX0_choices := ⟨rwX0_choices, wm 69 (by decide +kernel) rfl, wm 440 (by decide +kernel) rfl, ⟨by decide +kernel, by decide +kernel, by decide +kernel⟩, by decide +kernel, rfl, by decide, by decide⟩
theorem ocX0_choices : MOKc mX0_choices := ⟨okX0_choices, rfl, wm 441 (by decide +kernel) rfl⟩
theorem rwX0_sort : rowsOK mX0_sort := rowsOK_of (by decide +kernel)
theorem okX0_sort : MOK mX0_sort := ⟨rwX0_sort, wm 69 (by decide +kernel) rfl, wm 443 (by decide +kernel) rfl, ⟨by decide +kernel, by decide +kernel, by decide +kernel⟩, by decide +kernel, rfl, by decide, by decide⟩
theorem ocX0_sort : MOKc mX0_sort := ⟨okX0_sort, rfl, wm 444 (by decide +kernel) rfl⟩
theorem rwX0_elsewhere : rowsOK mX0_elsewhere := rowsOK_of (by decide +kernel)
theorem okX0_elsewhere : MOK mX0_elsewhere := ⟨rwX0_elsewhere, wm 69 (by decide +kernel) rfl, wm 446 (by decide +kernel) rfl, ⟨by decide +kernel, by decide +kernel, by decide +kernel⟩, by decide +kernel, rfl, by decide, by decide⟩
theorem ocX0_elsewhere : MOKc mX0_elsewhere := ⟨okX0_elsewhere, rfl, wm 447 (by decide +kernel) rfl⟩
theorem rwX0_place : rowsOK mX0_place := rowsOK_of (by decide +kernel)
theorem okX0_place : MOK mX0_place := ⟨rwX0_place, wm 69 (by decide +kernel) rfl, wm 449 (by decide +kernel) rfl, ⟨by decide +kernel, by decide +kernel, by decide +kernel⟩, by decide +kernel, rfl, by decide, by decide⟩
theorem ocX0_place : MOKc mX0_place := ⟨okX0_place, rfl, wm 450 (by decide +kernel) rfl⟩
theorem rwX0_eitherChoices : rowsOK mX0_eitherChoices := rowsOK_of (by decide +kernel)
theorem okX0_eitherChoices : MOK mX0_eitherChoices := ⟨rwX0_eitherChoices, wm 69 (by decide +kernel) rfl, wm 452 (by decide +kernel) rfl, ⟨by decide +kernel, by decide +kernel, by decide +kernel⟩, by decide +kernel, rfl, by decide, by decide⟩
theorem ocX0_eitherChoices : MOKc mX0_eitherChoices := ⟨okX0_eitherChoices, rfl, wm 453 (by decide +kernel) rfl⟩
theorem rwX0_holds : rowsOK mX0_holds := rowsOK_of (by decide +kernel)
theorem okX0_holds : MOK mX0_holds := ⟨rwX0_holds, wm 69 (by decide +kernel) rfl, wm 511 (by decide +kernel) rfl, ⟨by decide +kernel, by decide +kernel, by decide +kernel⟩, by decide +kernel, rfl, by decide, by decide⟩
theorem ocX0_holds : MOKc mX0_holds := ⟨okX0_holds, rfl, wm 512 (by decide +kernel) rfl⟩
theorem rwX1_has : rowsOK mX1_has := rowsOK_of (by decide +kernel)
theorem okX1_has : MOK mX1_has := ⟨rwX1_has, wm 72 (by decide +kernel) rfl, wm 528 (by decide +kernel) rfl, ⟨by decide +kernel, by decide +kernel, by decide +kernel⟩, by decide +kernel, rfl, by decide, by decide⟩
theorem ocX1_has : MOKc mX1_has := ⟨okX1_has, rfl, wm 529 (by decide +kernel) rfl⟩
theorem rwX1_spot : rowsOK mX1_spot := rowsOK_of (by decide +kernel)
theorem okX1_spot : MOK mX1_spot := ⟨rwX1_spot, wm 72 (by decide +kernel) rfl, wm 531 (by decide +kernel) rfl, ⟨by decide +kernel, by decide +kernel, by decide +kernel⟩, by decide +kernel, rfl, by decide, by decide⟩
theorem ocX1_spot : MOKc mX1_spot := ⟨okX1_spot, rfl, wm 532 (by decide +kernel) rfl⟩
theorem rwX1_placesOf : rowsOK mX1_placesOf := rowsOK_of (by decide +kernel)
theorem okX1_placesOf : MOK mX1_placesOf := ⟨rwX1_placesOf, wm 72 (by decide +kernel) rfl, wm 373 (by decide +kernel) rfl, ⟨by decide +kernel, by decide +kernel, by decide +kernel⟩, by decide +kernel, rfl, by decide, by decide⟩
theorem ocX1_placesOf : MOKc mX1_placesOf := ⟨okX1_placesOf, rfl, wm 374 (by decide +kernel) rfl⟩
theorem rwX1_takenByAnother : rowsOK mX1_takenByAnother := rowsOK_of (by decide +kernel)
theorem okX1_takenByAnother : MOK mX1_takenByAnother := ⟨rwX1_takenByAnother, wm 72 (by decide +kernel) rfl, wm 406 (by decide +kernel) rfl, ⟨by decide +kernel, by decide +kernel, by decide +kernel⟩, by decide +kernel, rfl, by decide, by decide⟩
theorem ocX1_takenByAnother : MOKc mX1_takenByAnother := ⟨okX1_takenByAnother, rfl, wm 407 (by decide +kernel) rfl⟩
theorem rwX1_itemsWithOne : rowsOK mX1_itemsWithOne := rowsOK_of (by decide +kernel)
theorem okX1_itemsWithOne : MOK mX1_itemsWithOne := ⟨rwX1_itemsWithOne, wm 72 (by decide +kernel) rfl, wm 409 (by decide +kernel) rfl, ⟨by decide +kernel, by decide +kernel, by decide +kernel⟩, by decide +kernel, rfl, by decide, by decide⟩
theorem ocX1_itemsWithOne : MOKc mX1_itemsWithOne := ⟨okX1_itemsWithOne, rfl, wm 410 (by decide +kernel) rfl⟩
theorem rwX1_itemsWithSome : rowsOK mX1_itemsWithSome := rowsOK_of (by decide +kernel)
theorem okX1_itemsWithSome : MOK mX1_itemsWithSome := ⟨rwX1_itemsWithSome, wm 72 (by decide +kernel) rfl, wm 412 (by decide +kernel) rfl, ⟨by decide +kernel, by decide +kernel, by decide +kernel⟩, by decide +kernel, rfl, by decide, by decide⟩
theorem ocX1_itemsWithSome : MOKc mX1_itemsWithSome := ⟨okX1_itemsWithSome, rfl, wm 413 (by decide +kernel) rfl⟩
theorem rwX1_itemsWithMore : rowsOK mX1_itemsWithMore := rowsOK_of (by decide +kernel)
theorem okX1_itemsWithMore : MOK mX1_itemsWithMore := ⟨rwX1_itemsWithMore, wm 72 (by decide +kernel) rfl, wm 417 (by decide +kernel) rfl, ⟨by decide +kernel, by decide +kernel, by decide +kernel⟩, by decide +kernel, rfl, by decide, by decide⟩
theorem ocX1_itemsWithMore : MOKc mX1_itemsWithMore := ⟨okX1_itemsWithMore, rfl, wm 418 (by decide +kernel) rfl⟩
theorem rwX1_ofOthers : rowsOK mX1_ofOthers := rowsOK_of (by decide +kernel)
theorem okX1_ofOthers : MOK mX1_ofOthers := ⟨rwX1_ofOthers, wm 72 (by decide +kernel) rfl, wm 421 (by decide +kernel) rfl, ⟨by decide +kernel, by decide +kernel, by decide +kernel⟩, by decide +kernel, rfl, by decide, by decide⟩
theorem ocX1_ofOthers : MOKc mX1_ofOthers := ⟨okX1_ofOthers, rfl, wm 422 (by decide +kernel) rfl⟩
theorem rwX1_neededElsewhere : rowsOK mX1_neededElsewhere := rowsOK_of (by decide +kernel)
theorem okX1_neededElsewhere : MOK mX1_neededElsewhere := ⟨rwX1_neededElsewhere, wm 72 (by decide +kernel) rfl, wm 430 (by decide +kernel) rfl, ⟨by decide +kernel, by decide +kernel, by decide +kernel⟩, by decide +kernel, rfl, by decide, by decide⟩
theorem ocX1_neededElsewhere : MOKc mX1_neededElsewhere := ⟨okX1_neededElsewhere, rfl, wm 431 (by decide +kernel) rfl⟩
theorem rwX1_isContradictory : rowsOK mX1_isContradictory := rowsOK_of (by decide +kernel)
theorem okX1_isContradictory : MOK mX1_isContradictory := ⟨rwX1_isContradictory, wm 72 (by decide +kernel) rfl, wm 459 (by decide +kernel) rfl, ⟨by decide +kernel, by decide +kernel, by decide +kernel⟩, by decide +kernel, rfl, by decide, by decide⟩
theorem ocX1_isContradictory : MOKc mX1_isContradictory := ⟨okX1_isContradictory, rfl, wm 460 (by decide +kernel) rfl⟩
theorem rwX1_onlyPlaceOf : rowsOK mX1_onlyPlaceOf := rowsOK_of (by decide +kernel)
theorem okX1_onlyPlaceOf : MOK mX1_onlyPlaceOf := ⟨rwX1_onlyPlaceOf, wm 72 (by decide +kernel) rfl, wm 708 (by decide +kernel) rfl, ⟨by decide +kernel, by decide +kernel, by decide +kernel⟩, by decide +kernel, rfl, by decide, by decide⟩
theorem ocX1_onlyPlaceOf : MOKc mX1_onlyPlaceOf := ⟨okX1_onlyPlaceOf, rfl, wm 709 (by decide +kernel) rfl⟩
theorem rwX1_countWithOne : rowsOK mX1_countWithOne := rowsOK_of (by decide +kernel)
theorem okX1_countWithOne : MOK mX1_countWithOne := ⟨rwX1_countWithOne, wm 72 (by decide +kernel) rfl, wm 471 (by decide +kernel) rfl, ⟨by decide +kernel, by decide +kernel, by decide +kernel⟩, by decide +kernel, rfl, by decide, by decide⟩
theorem ocX1_countWithOne : MOKc mX1_countWithOne := ⟨okX1_countWithOne, rfl, wm 472 (by decide +kernel) rfl⟩
theorem rwX1_leastBit : rowsOK mX1_leastBit := rowsOK_of (by decide +kernel)
theorem okX1_leastBit : MOK mX1_leastBit := ⟨rwX1_leastBit, wm 72 (by decide +kernel) rfl, wm 481 (by decide +kernel) rfl, ⟨by decide +kernel, by decide +kernel, by decide +kernel⟩, by decide +kernel, rfl, by decide, by decide⟩
theorem ocX1_leastBit : MOKc mX1_leastBit := ⟨okX1_leastBit, rfl, wm 482 (by decide +kernel) rfl⟩
theorem rwX1_hasBit : rowsOK mX1_hasBit := rowsOK_of (by decide +kernel)
theorem okX1_hasBit : MOK mX1_hasBit := ⟨rwX1_hasBit, wm 72 (by decide +kernel) rfl, wm 484 (by decide +kernel) rfl, ⟨by decide +kernel, by decide +kernel, by decide +kernel⟩, by decide +kernel, rfl, by decide, by decide⟩
theorem ocX1_hasBit : MOKc mX1_hasBit := ⟨okX1_hasBit, rfl, wm 485 (by decide +kernel) rfl⟩
theorem rwX1_firstWithMore : rowsOK mX1_firstWithMore := rowsOK_of (by decide +kernel)
theorem okX1_firstWithMore : MOK mX1_firstWithMore := ⟨rwX1_firstWithMore, wm 72 (by decide +kernel) rfl, wm 524 (by decide +kernel) rfl, ⟨by decide +kernel, by decide +kernel, by decide +kernel⟩, by decide +kernel, rfl, by decide, by decide⟩
theorem ocX1_firstWithMore : MOKc mX1_firstWithMore := ⟨okX1_firstWithMore, rfl, wm 525 (by decide +kernel) rfl⟩
theorem rwX1_withOnly : rowsOK mX1_withOnly := rowsOK_of (by decide +kernel)
theorem okX1_withOnly : MOK mX1_withOnly := ⟨rwX1_withOnly, wm 72 (by decide +kernel) rfl, wm 534 (by decide +kernel) rfl, ⟨by decide +kernel, by decide +kernel, by decide +kernel⟩, by decide +kernel, rfl, by decide, by decide⟩
theorem ocX1_withOnly : MOKc mX1_withOnly := ⟨okX1_withOnly, rfl, wm 535 (by decide +kernel) rfl⟩
theorem rwX2_run : rowsOK mX2_run := rowsOK_of (by decide +kernel)
theorem okX2_run : MOK mX2_run := ⟨rwX2_run, wm 61 (by decide +kernel) rfl, ⟨wm 394 (by decide +kernel) rfl, wm 395 (by decide +kernel) rfl⟩, ⟨by decide +kernel, by decide +kernel, by decide +kernel⟩, by decide +kernel, rfl, by decide, by decide⟩
theorem ocX2_run : MOKc mX2_run := ⟨okX2_run, rfl, wm 396 (by decide +kernel) rfl⟩
theorem rwX2_leftAtFirst : rowsOK mX2_leftAtFirst := rowsOK_of (by decide +kernel)
theorem okX2_leftAtFirst : MOK mX2_leftAtFirst := ⟨rwX2_leftAtFirst, wm 61 (by decide +kernel) rfl, wm 398 (by decide +kernel) rfl, ⟨by decide +kernel, by decide +kernel, by decide +kernel⟩, by decide +kernel, rfl, by decide, by decide⟩
theorem ocX2_leftAtFirst : MOKc mX2_leftAtFirst := ⟨okX2_leftAtFirst, rfl, wm 399 (by decide +kernel) rfl⟩
theorem rwX2_ruledOut : rowsOK mX2_ruledOut := rowsOK_of (by decide +kernel)
theorem okX2_ruledOut : MOK mX2_ruledOut := ⟨rwX2_ruledOut, wm 61 (by decide +kernel) rfl, wm 403 (by decide +kernel) rfl, ⟨by decide +kernel, by decide +kernel, by decide +kernel⟩, by decide +kernel, rfl, by decide, by decide⟩
theorem ocX2_ruledOut : MOKc mX2_ruledOut := ⟨okX2_ruledOut, rfl, wm 404 (by decide +kernel) rfl⟩
theorem rwX2_byTurns : rowsOK mX2_byTurns := rowsOK_of (by decide +kernel)
theorem okX2_byTurns : MOK mX2_byTurns := ⟨rwX2_byTurns, wm 61 (by decide +kernel) rfl, wm 521 (by decide +kernel) rfl, ⟨by decide +kernel, by decide +kernel, by decide +kernel⟩, by decide +kernel, rfl, by decide, by decide⟩
theorem ocX2_byTurns : MOKc mX2_byTurns := ⟨okX2_byTurns, rfl, wm 522 (by decide +kernel) rfl⟩
theorem rwX3_copyFrom : rowsOK mX3_copyFrom := rowsOK_of (by decide +kernel)
theorem okX3_copyFrom : MOK mX3_copyFrom := ⟨rwX3_copyFrom, wm 59 (by decide +kernel) rfl, ⟨wm 215 (by decide +kernel) rfl, wm 216 (by decide +kernel) rfl⟩, ⟨by decide +kernel, by decide +kernel, by decide +kernel⟩, by decide +kernel, rfl, by decide, by decide⟩
theorem ocX3_copyFrom : MOKc mX3_copyFrom := ⟨okX3_copyFrom, rfl, wm 217 (by decide +kernel) rfl⟩
theorem rwX3_addClue : rowsOK mX3_addClue := rowsOK_of (by decide +kernel)
theorem okX3_addClue : MOK mX3_addClue := ⟨rwX3_addClue, wm 59 (by decide +kernel) rfl, ⟨wm 786 (by decide +kernel) rfl, wm 787 (by decide +kernel) rfl⟩, ⟨by decide +kernel, by decide +kernel, by decide +kernel⟩, by decide +kernel, rfl, by decide, by decide⟩
theorem ocX3_addClue : MOKc mX3_addClue := ⟨okX3_addClue, rfl, wm 788 (by decide +kernel) rfl⟩
theorem rwX3_dropClue : rowsOK mX3_dropClue := rowsOK_of (by decide +kernel)
theorem okX3_dropClue : MOK mX3_dropClue := ⟨rwX3_dropClue, wm 59 (by decide +kernel) rfl, ⟨wm 843 (by decide +kernel) rfl, wm 844 (by decide +kernel) rfl⟩, ⟨by decide +kernel, by decide +kernel, by decide +kernel⟩, by decide +kernel, rfl, by decide, by decide⟩
theorem ocX3_dropClue : MOKc mX3_dropClue := ⟨okX3_dropClue, rfl, wm 845 (by decide +kernel) rfl⟩
theorem rwX3_makeCrosses : rowsOK mX3_makeCrosses := rowsOK_of (by decide +kernel)
theorem okX3_makeCrosses : MOK mX3_makeCrosses := ⟨rwX3_makeCrosses, wm 59 (by decide +kernel) rfl, ⟨wm 856 (by decide +kernel) rfl, wm 857 (by decide +kernel) rfl⟩, ⟨by decide +kernel, by decide +kernel, by decide +kernel⟩, by decide +kernel, rfl, by decide, by decide⟩
theorem ocX3_makeCrosses : MOKc mX3_makeCrosses := ⟨okX3_makeCrosses, rfl, wm 858 (by decide +kernel) rfl⟩
theorem rwX3_crossesOf : rowsOK mX3_crossesOf := rowsOK_of (by decide +kernel)
theorem okX3_crossesOf : MOK mX3_crossesOf := ⟨rwX3_crossesOf, wm 59 (by decide +kernel) rfl, ⟨wm 369 (by decide +kernel) rfl, wm 370 (by decide +kernel) rfl⟩, ⟨by decide +kernel, by decide +kernel, by decide +kernel⟩, by decide +kernel, rfl, by decide, by decide⟩
theorem ocX3_crossesOf : MOKc mX3_crossesOf := ⟨okX3_crossesOf, rfl, wm 371 (by decide +kernel) rfl⟩
theorem rwX3_rubCrosses : rowsOK mX3_rubCrosses := rowsOK_of (by decide +kernel)
theorem okX3_rubCrosses : MOK mX3_rubCrosses := ⟨rwX3_rubCrosses, wm 59 (by decide +kernel) rfl, ⟨wm 223 (by decide +kernel) rfl, wm 224 (by decide +kernel) rfl⟩, ⟨by decide +kernel, by decide +kernel, by decide +kernel⟩, by decide +kernel, rfl, by decide, by decide⟩
theorem ocX3_rubCrosses : MOKc mX3_rubCrosses := ⟨okX3_rubCrosses, rfl, wm 225 (by decide +kernel) rfl⟩
theorem rwX3_allows : rowsOK mX3_allows := rowsOK_of (by decide +kernel)
theorem okX3_allows : MOK mX3_allows := ⟨rwX3_allows, wm 59 (by decide +kernel) rfl, ⟨wm 575 (by decide +kernel) rfl, wm 576 (by decide +kernel) rfl⟩, ⟨by decide +kernel, by decide +kernel, by decide +kernel⟩, by decide +kernel, rfl, by decide, by decide⟩
theorem ocX3_allows : MOKc mX3_allows := ⟨okX3_allows, rfl, wm 577 (by decide +kernel) rfl⟩
theorem rwX4_lookAt : rowsOK mX4_lookAt := rowsOK_of (by decide +kernel)
theorem okX4_lookAt : MOK mX4_lookAt := ⟨rwX4_lookAt, wm 62 (by decide +kernel) rfl, ⟨wm 498 (by decide +kernel) rfl, wm 499 (by decide +kernel) rfl⟩, ⟨by decide +kernel, by decide +kernel, by decide +kernel⟩, by decide +kernel, rfl, by decide, by decide⟩
theorem ocX4_lookAt : MOKc mX4_lookAt := ⟨okX4_lookAt, rfl, wm 500 (by decide +kernel) rfl⟩
theorem rwX4_arrangement : rowsOK mX4_arrangement := rowsOK_of (by decide +kernel)
theorem okX4_arrangement : MOK mX4_arrangement := ⟨rwX4_arrangement, wm 62 (by decide +kernel) rfl, wm 502 (by decide +kernel) rfl, ⟨by decide +kernel, by decide +kernel, by decide +kernel⟩, by decide +kernel, rfl, by decide, by decide⟩
theorem ocX4_arrangement : MOKc mX4_arrangement := ⟨okX4_arrangement, rfl, wm 503 (by decide +kernel) rfl⟩
theorem rwX4_count : rowsOK mX4_count := rowsOK_of (by decide +kernel)
theorem okX4_count : MOK mX4_count := ⟨rwX4_count, wm 62 (by decide +kernel) rfl, ⟨wm 508 (by decide +kernel) rfl, wm 7 (by decide +kernel) rfl⟩, ⟨by decide +kernel, by decide +kernel, by decide +kernel⟩, by decide +kernel, rfl, by decide, by decide⟩
theorem ocX4_count : MOKc mX4_count := ⟨okX4_count, rfl, wm 509 (by decide +kernel) rfl⟩
theorem rwX5_errorIndex : rowsOK mX5_errorIndex := rowsOK_of (by decide +kernel)
theorem okX5_errorIndex : MOK mX5_errorIndex := ⟨rwX5_errorIndex, wm 60 (by decide +kernel) rfl, ⟨wm 242 (by decide +kernel) rfl, wm 243 (by decide +kernel) rfl⟩, ⟨by decide +kernel, by decide +kernel, by decide +kernel⟩, by decide +kernel, rfl, by decide, by decide⟩
theorem ocX5_errorIndex : MOKc mX5_errorIndex := ⟨okX5_errorIndex, rfl, wm 244 (by decide +kernel) rfl⟩
theorem rwX5_fits : rowsOK mX5_fits := rowsOK_of (by decide +kernel)
theorem okX5_fits : MOK mX5_fits := ⟨rwX5_fits, wm 60 (by decide +kernel) rfl, ⟨wm 247 (by decide +kernel) rfl, wm 2 (by decide +kernel) rfl⟩, ⟨by decide +kernel, by decide +kernel, by decide +kernel⟩, by decide +kernel, rfl, by decide, by decide⟩
theorem ocX5_fits : MOKc mX5_fits := ⟨okX5_fits, rfl, wm 248 (by decide +kernel) rfl⟩
theorem rwX5_isItem : rowsOK mX5_isItem := rowsOK_of (by decide +kernel)
theorem okX5_isItem : MOK mX5_isItem := ⟨rwX5_isItem, wm 60 (by decide +kernel) rfl, wm 250 (by decide +kernel) rfl, ⟨by decide +kernel, by decide +kernel, by decide +kernel⟩, by decide +kernel, rfl, by decide, by decide⟩
theorem ocX5_isItem : MOKc mX5_isItem := ⟨okX5_isItem, rfl, wm 251 (by decide +kernel) rfl⟩
theorem rwX5_isCrossAt : rowsOK mX5_isCrossAt := rowsOK_of (by decide +kernel)
theorem okX5_isCrossAt : MOK mX5_isCrossAt := ⟨rwX5_isCrossAt, wm 60 (by decide +kernel) rfl, ⟨wm 253 (by decide +kernel) rfl, wm 254 (by decide +kernel) rfl⟩, ⟨by decide +kernel, by decide +kernel, by decide +kernel⟩, by decide +kernel, rfl, by decide, by decide⟩
theorem ocX5_isCrossAt : MOKc mX5_isCrossAt := ⟨okX5_isCrossAt, rfl, wm 255 (by decide +kernel) rfl⟩
theorem rwX5_signAt : rowsOK mX5_signAt := rowsOK_of (by decide +kernel)
theorem okX5_signAt : MOK mX5_signAt := ⟨rwX5_signAt, wm 60 (by decide +kernel) rfl, ⟨wm 258 (by decide +kernel) rfl, wm 3 (by decide +kernel) rfl⟩, ⟨by decide +kernel, by decide +kernel, by decide +kernel⟩, by decide +kernel, rfl, by decide, by decide⟩
theorem ocX5_signAt : MOKc mX5_signAt := ⟨okX5_signAt, rfl, wm 259 (by decide +kernel) rfl⟩
theorem rwX5_partLength : rowsOK mX5_partLength := rowsOK_of (by decide +kernel)
theorem okX5_partLength : MOK mX5_partLength := ⟨rwX5_partLength, wm 60 (by decide +kernel) rfl, ⟨wm 349 (by decide +kernel) rfl, wm 4 (by decide +kernel) rfl⟩, ⟨by decide +kernel, by decide +kernel, by decide +kernel⟩, by decide +kernel, rfl, by decide, by decide⟩
theorem ocX5_partLength : MOKc mX5_partLength := ⟨okX5_partLength, rfl, wm 350 (by decide +kernel) rfl⟩
theorem rwX5_endsWithPlace : rowsOK mX5_endsWithPlace := rowsOK_of (by decide +kernel)
theorem okX5_endsWithPlace : MOK mX5_endsWithPlace := ⟨rwX5_endsWithPlace, wm 60 (by decide +kernel) rfl, ⟨wm 353 (by decide +kernel) rfl, wm 5 (by decide +kernel) rfl⟩, ⟨by decide +kernel, by decide +kernel, by decide +kernel⟩, by decide +kernel, rfl, by decide, by decide⟩
theorem ocX5_endsWithPlace : MOKc mX5_endsWithPlace := ⟨okX5_endsWithPlace, rfl, wm 354 (by decide +kernel) rfl⟩
theorem rwX5_isComplete : rowsOK mX5_isComplete := rowsOK_of (by decide +kernel)
theorem okX5_isComplete : MOK mX5_isComplete := ⟨rwX5_isComplete, wm 60 (by decide +kernel) rfl, ⟨wm 893 (by decide +kernel) rfl, wm 894 (by decide +kernel) rfl⟩, ⟨by decide +kernel, by decide +kernel, by decide +kernel⟩, by decide +kernel, rfl, by decide, by decide⟩
theorem ocX5_isComplete : MOKc mX5_isComplete := ⟨okX5_isComplete, rfl, wm 895 (by decide +kernel) rfl⟩
theorem rwX5_beginsPart : rowsOK mX5_beginsPart := rowsOK_of (by decide +kernel)
theorem okX5_beginsPart : MOK mX5_beginsPart := ⟨rwX5_beginsPart, wm 60 (by decide +kernel) rfl, ⟨wm 899 (by decide +kernel) rfl, wm 900 (by decide +kernel) rfl⟩, ⟨by decide +kernel, by decide +kernel, by decide +kernel⟩, by decide +kernel, rfl, by decide, by decide⟩
theorem ocX5_beginsPart : MOKc mX5_beginsPart := ⟨okX5_beginsPart, rfl, wm 901 (by decide +kernel) rfl⟩
theorem rwX5_crossAt : rowsOK mX5_crossAt := rowsOK_of (by decide +kernel)
theorem okX5_crossAt : MOK mX5_crossAt := ⟨rwX5_crossAt, wm 60 (by decide +kernel) rfl, ⟨wm 908 (by decide +kernel) rfl, wm 909 (by decide +kernel) rfl⟩, ⟨by decide +kernel, by decide +kernel, by decide +kernel⟩, by decide +kernel, rfl, by decide, by decide⟩
theorem ocX5_crossAt : MOKc mX5_crossAt := ⟨okX5_crossAt, rfl, wm 910 (by decide +kernel) rfl⟩
theorem rwX5_clueAt : rowsOK mX5_clueAt := rowsOK_of (by decide +kernel)
theorem okX5_clueAt : MOK mX5_clueAt := ⟨rwX5_clueAt, wm 60 (by decide +kernel) rfl, ⟨wm 913 (by decide +kernel) rfl, wm 914 (by decide +kernel) rfl⟩, ⟨by decide +kernel, by decide +kernel, by decide +kernel⟩, by decide +kernel, rfl, by decide, by decide⟩
theorem ocX5_clueAt : MOKc mX5_clueAt := ⟨okX5_clueAt, rfl, wm 915 (by decide +kernel) rfl⟩
theorem rwX6_same : rowsOK mX6_same := rowsOK_of (by decide +kernel)
theorem okX6_same : MOK mX6_same := ⟨rwX6_same, wm 58 (by decide +kernel) rfl, ⟨wm 736 (by decide +kernel) rfl, wm 737 (by decide +kernel) rfl⟩, ⟨by decide +kernel, by decide +kernel, by decide +kernel⟩, by decide +kernel, rfl, by decide, by decide⟩
theorem ocX6_same : MOKc mX6_same := ⟨okX6_same, rfl, wm 738 (by decide +kernel) rfl⟩
theorem rwX6_addPair : rowsOK mX6_addPair := rowsOK_of (by decide +kernel)
theorem okX6_addPair : MOK mX6_addPair := ⟨rwX6_addPair, wm 58 (by decide +kernel) rfl, ⟨wm 741 (by decide +kernel) rfl, wm 15 (by decide +kernel) rfl⟩, ⟨by decide +kernel, by decide +kernel, by decide +kernel⟩, by decide +kernel, rfl, by decide, by decide⟩
theorem ocX6_addPair : MOKc mX6_addPair := ⟨okX6_addPair, rfl, wm 742 (by decide +kernel) rfl⟩
theorem rwX6_requireItem : rowsOK mX6_requireItem := rowsOK_of (by decide +kernel)
theorem okX6_requireItem : MOK mX6_requireItem := ⟨rwX6_requireItem, wm 58 (by decide +kernel) rfl, wm 699 (by decide +kernel) rfl, ⟨by decide +kernel, by decide +kernel, by decide +kernel⟩, by decide +kernel, rfl, by decide, by decide⟩
theorem ocX6_requireItem : MOKc mX6_requireItem := ⟨okX6_requireItem, rfl, wm 700 (by decide +kernel) rfl⟩
theorem rwX6_requireUnlike : rowsOK mX6_requireUnlike := rowsOK_of (by decide +kernel)
theorem okX6_requireUnlike : MOK mX6_requireUnlike := ⟨rwX6_requireUnlike, wm 58 (by decide +kernel) rfl, wm 744 (by decide +kernel) rfl, ⟨by decide +kernel, by decide +kernel, by decide +kernel⟩, by decide +kernel, rfl, by decide, by decide⟩
theorem ocX6_requireUnlike : MOKc mX6_requireUnlike := ⟨okX6_requireUnlike, rfl, wm 745 (by decide +kernel) rfl⟩
theorem rwX6_addClue : rowsOK mX6_addClue := rowsOK_of (by decide +kernel)
theorem okX6_addClue : MOK mX6_addClue := ⟨rwX6_addClue, wm 58 (by decide +kernel) rfl, ⟨wm 767 (by decide +kernel) rfl, wm 16 (by decide +kernel) rfl⟩, ⟨by decide +kernel, by decide +kernel, by decide +kernel⟩, by decide +kernel, rfl, by decide, by decide⟩
theorem ocX6_addClue : MOKc mX6_addClue := ⟨okX6_addClue, rfl, wm 768 (by decide +kernel) rfl⟩
theorem rwX6_save : rowsOK mX6_save := rowsOK_of (by decide +kernel)
theorem okX6_save : MOK mX6_save := ⟨rwX6_save, wm 58 (by decide +kernel) rfl, ⟨wm 208 (by decide +kernel) rfl, wm 0 (by decide +kernel) rfl⟩, ⟨by decide +kernel, by decide +kernel, by decide +kernel⟩, by decide +kernel, rfl, by decide, by decide⟩
theorem ocX6_save : MOKc mX6_save := ⟨okX6_save, rfl, wm 209 (by decide +kernel) rfl⟩
theorem rwX6_dropOldest : rowsOK mX6_dropOldest := rowsOK_of (by decide +kernel)
theorem okX6_dropOldest : MOK mX6_dropOldest := ⟨rwX6_dropOldest, wm 58 (by decide +kernel) rfl, ⟨wm 212 (by decide +kernel) rfl, wm 1 (by decide +kernel) rfl⟩, ⟨by decide +kernel, by decide +kernel, by decide +kernel⟩, by decide +kernel, rfl, by decide, by decide⟩
theorem ocX6_dropOldest : MOKc mX6_dropOldest := ⟨okX6_dropOldest, rfl, wm 213 (by decide +kernel) rfl⟩
theorem rwX6_apart : rowsOK mX6_apart := rowsOK_of (by decide +kernel)
theorem okX6_apart : MOK mX6_apart := ⟨rwX6_apart, wm 58 (by decide +kernel) rfl, ⟨wm 793 (by decide +kernel) rfl, wm 794 (by decide +kernel) rfl⟩, ⟨by decide +kernel, by decide +kernel, by decide +kernel⟩, by decide +kernel, rfl, by decide, by decide⟩
theorem ocX6_apart : MOKc mX6_apart := ⟨okX6_apart, rfl, wm 795 (by decide +kernel) rfl⟩
theorem rwX6_leftOf : rowsOK mX6_leftOf := rowsOK_of (by decide +kernel)
theorem okX6_leftOf : MOK mX6_leftOf := ⟨rwX6_leftOf, wm 58 (by decide +kernel) rfl, ⟨wm 800 (by decide +kernel) rfl, wm 801 (by decide +kernel) rfl⟩, ⟨by decide +kernel, by decide +kernel, by decide +kernel⟩, by decide +kernel, rfl, by decide, by decide⟩
theorem ocX6_leftOf : MOKc mX6_leftOf := ⟨okX6_leftOf, rfl, wm 802 (by decide +kernel) rfl⟩
theorem rwX6_nextTo : rowsOK mX6_nextTo := rowsOK_of (by decide +kernel)
theorem okX6_nextTo : MOK mX6_nextTo := ⟨rwX6_nextTo, wm 58 (by decide +kernel) rfl, ⟨wm 807 (by decide +kernel) rfl, wm 808 (by decide +kernel) rfl⟩, ⟨by decide +kernel, by decide +kernel, by decide +kernel⟩, by decide +kernel, rfl, by decide, by decide⟩
theorem ocX6_nextTo : MOKc mX6_nextTo := ⟨okX6_nextTo, rfl, wm 809 (by decide +kernel) rfl⟩
theorem rwX6_at : rowsOK mX6_at := rowsOK_of (by decide +kernel)
theorem okX6_at : MOK mX6_at := ⟨rwX6_at, wm 58 (by decide +kernel) rfl, ⟨wm 814 (by decide +kernel) rfl, wm 815 (by decide +kernel) rfl⟩, ⟨by decide +kernel, by decide +kernel, by decide +kernel⟩, by decide +kernel, rfl, by decide, by decide⟩
theorem ocX6_at : MOKc mX6_at := ⟨okX6_at, rfl, wm 816 (by decide +kernel) rfl⟩
theorem rwX6_addPlaced : rowsOK mX6_addPlaced := rowsOK_of (by decide +kernel)
theorem okX6_addPlaced : MOK mX6_addPlaced := ⟨rwX6_addPlaced, wm 58 (by decide +kernel) rfl, ⟨wm 819 (by decide +kernel) rfl, wm 17 (by decide +kernel) rfl⟩, ⟨by decide +kernel, by decide +kernel, by decide +kernel⟩, by decide +kernel, rfl, by decide, by decide⟩
theorem ocX6_addPlaced : MOKc mX6_addPlaced := ⟨okX6_addPlaced, rfl, wm 820 (by decide +kernel) rfl⟩
theorem rwX6_requirePlace : rowsOK mX6_requirePlace := rowsOK_of (by decide +kernel)
theorem okX6_requirePlace : MOK mX6_requirePlace := ⟨rwX6_requirePlace, wm 58 (by decide +kernel) rfl, wm 703 (by decide +kernel) rfl, ⟨by decide +kernel, by decide +kernel, by decide +kernel⟩, by decide +kernel, rfl, by decide, by decide⟩
theorem ocX6_requirePlace : MOKc mX6_requirePlace := ⟨okX6_requirePlace, rfl, wm 704 (by decide +kernel) rfl⟩
theorem rwX6_notAt : rowsOK mX6_notAt := rowsOK_of (by decide +kernel)
theorem okX6_notAt : MOK mX6_notAt := ⟨rwX6_notAt, wm 58 (by decide +kernel) rfl, ⟨wm 825 (by decide +kernel) rfl, wm 826 (by decide +kernel) rfl⟩, ⟨by decide +kernel, by decide +kernel, by decide +kernel⟩, by decide +kernel, rfl, by decide, by decide⟩
theorem ocX6_notAt : MOKc mX6_notAt := ⟨okX6_notAt, rfl, wm 827 (by decide +kernel) rfl⟩
theorem rwX6_either : rowsOK mX6_either := rowsOK_of (by decide +kernel)
theorem okX6_either : MOK mX6_either := ⟨rwX6_either, wm 58 (by decide +kernel) rfl, ⟨wm 832 (by decide +kernel) rfl, wm 833 (by decide +kernel) rfl⟩, ⟨by decide +kernel, by decide +kernel, by decide +kernel⟩, by decide +kernel, rfl, by decide, by decide⟩
theorem ocX6_either : MOKc mX6_either := ⟨okX6_either, rfl, wm 834 (by decide +kernel) rfl⟩
theorem rwX6_withdraw : rowsOK mX6_withdraw := rowsOK_of (by decide +kernel)
theorem okX6_withdraw : MOK mX6_withdraw := ⟨rwX6_withdraw, wm 58 (by decide +kernel) rfl, ⟨wm 839 (by decide +kernel) rfl, wm 840 (by decide +kernel) rfl⟩, ⟨by decide +kernel, by decide +kernel, by decide +kernel⟩, by decide +kernel, rfl, by decide, by decide⟩
theorem ocX6_withdraw : MOKc mX6_withdraw := ⟨okX6_withdraw, rfl, wm 841 (by decide +kernel) rfl⟩
theorem rwX6_requireClue : rowsOK mX6_requireClue := rowsOK_of (by decide +kernel)
theorem okX6_requireClue : MOK mX6_requireClue := ⟨rwX6_requireClue, wm 58 (by decide +kernel) rfl, ⟨wm 594 (by decide +kernel) rfl, wm 11 (by decide +kernel) rfl⟩, ⟨by decide +kernel, by decide +kernel, by decide +kernel⟩, by decide +kernel, rfl, by decide, by decide⟩
theorem ocX6_requireClue : MOKc mX6_requireClue := ⟨okX6_requireClue, rfl, wm 595 (by decide +kernel) rfl⟩
theorem rwX6_cross : rowsOK mX6_cross := rowsOK_of (by decide +kernel)
theorem okX6_cross : MOK mX6_cross := ⟨rwX6_cross, wm 58 (by decide +kernel) rfl, ⟨wm 850 (by decide +kernel) rfl, wm 851 (by decide +kernel) rfl⟩, ⟨by decide +kernel, by decide +kernel, by decide +kernel⟩, by decide +kernel, rfl, by decide, by decide⟩
theorem ocX6_cross : MOKc mX6_cross := ⟨okX6_cross, rfl, wm 852 (by decide +kernel) rfl⟩
theorem rwX6_rubOut : rowsOK mX6_rubOut := rowsOK_of (by decide +kernel)
theorem okX6_rubOut : MOK mX6_rubOut := ⟨rwX6_rubOut, wm 58 (by decide +kernel) rfl, ⟨wm 863 (by decide +kernel) rfl, wm 864 (by decide +kernel) rfl⟩, ⟨by decide +kernel, by decide +kernel, by decide +kernel⟩, by decide +kernel, rfl, by decide, by decide⟩
theorem ocX6_rubOut : MOKc mX6_rubOut := ⟨okX6_rubOut, rfl, wm 865 (by decide +kernel) rfl⟩
theorem rwX6_rubAllOut : rowsOK mX6_rubAllOut := rowsOK_of (by decide +kernel)
theorem okX6_rubAllOut : MOK mX6_rubAllOut := ⟨rwX6_rubAllOut, wm 58 (by decide +kernel) rfl, ⟨wm 203 (by decide +kernel) rfl, wm 204 (by decide +kernel) rfl⟩, ⟨by decide +kernel, by decide +kernel, by decide +kernel⟩, by decide +kernel, rfl, by decide, by decide⟩
theorem ocX6_rubAllOut : MOKc mX6_rubAllOut := ⟨okX6_rubAllOut, rfl, wm 205 (by decide +kernel) rfl⟩
theorem rwX6_settle : rowsOK mX6_settle := rowsOK_of (by decide +kernel)
theorem okX6_settle : MOK mX6_settle := ⟨rwX6_settle, wm 58 (by decide +kernel) rfl, ⟨wm 871 (by decide +kernel) rfl, wm 872 (by decide +kernel) rfl⟩, ⟨by decide +kernel, by decide +kernel, by decide +kernel⟩, by decide +kernel, rfl, by decide, by decide⟩
theorem ocX6_settle : MOKc mX6_settle := ⟨okX6_settle, rfl, wm 873 (by decide +kernel) rfl⟩
theorem rwX6_append : rowsOK mX6_append := rowsOK_of (by decide +kernel)
theorem okX6_append : MOK mX6_append := ⟨rwX6_append, wm 58 (by decide +kernel) rfl, ⟨wm 880 (by decide +kernel) rfl, wm 881 (by decide +kernel) rfl⟩, ⟨by decide +kernel, by decide +kernel, by decide +kernel⟩, by decide +kernel, rfl, by decide, by decide⟩
theorem ocX6_append : MOKc mX6_append := ⟨okX6_append, rfl, wm 882 (by decide +kernel) rfl⟩
theorem rwX6_clearBuffer : rowsOK mX6_clearBuffer := rowsOK_of (by decide +kernel)
theorem okX6_clearBuffer : MOK mX6_clearBuffer := ⟨rwX6_clearBuffer, wm 58 (by decide +kernel) rfl, ⟨wm 234 (by decide +kernel) rfl, wm 235 (by decide +kernel) rfl⟩, ⟨by decide +kernel, by decide +kernel, by decide +kernel⟩, by decide +kernel, rfl, by decide, by decide⟩
theorem ocX6_clearBuffer : MOKc mX6_clearBuffer := ⟨okX6_clearBuffer, rfl, wm 236 (by decide +kernel) rfl⟩
theorem rwX6_firstError : rowsOK mX6_firstError := rowsOK_of (by decide +kernel)
theorem okX6_firstError : MOK mX6_firstError := ⟨rwX6_firstError, wm 58 (by decide +kernel) rfl, ⟨wm 238 (by decide +kernel) rfl, wm 239 (by decide +kernel) rfl⟩, ⟨by decide +kernel, by decide +kernel, by decide +kernel⟩, by decide +kernel, rfl, by decide, by decide⟩
theorem ocX6_firstError : MOKc mX6_firstError := ⟨okX6_firstError, rfl, wm 240 (by decide +kernel) rfl⟩
theorem rwX6_take : rowsOK mX6_take := rowsOK_of (by decide +kernel)
theorem okX6_take : MOK mX6_take := ⟨rwX6_take, wm 58 (by decide +kernel) rfl, ⟨wm 889 (by decide +kernel) rfl, wm 890 (by decide +kernel) rfl⟩, ⟨by decide +kernel, by decide +kernel, by decide +kernel⟩, by decide +kernel, rfl, by decide, by decide⟩
theorem ocX6_take : MOKc mX6_take := ⟨okX6_take, rfl, wm 891 (by decide +kernel) rfl⟩
theorem rwX6_doPart : rowsOK mX6_doPart := rowsOK_of (by decide +kernel)
theorem okX6_doPart : MOK mX6_doPart := ⟨rwX6_doPart, wm 58 (by decide +kernel) rfl, ⟨wm 904 (by decide +kernel) rfl, wm 18 (by decide +kernel) rfl⟩, ⟨by decide +kernel, by decide +kernel, by decide +kernel⟩, by decide +kernel, rfl, by decide, by decide⟩
theorem ocX6_doPart : MOKc mX6_doPart := ⟨okX6_doPart, rfl, wm 905 (by decide +kernel) rfl⟩
theorem rwX6_keep : rowsOK mX6_keep := rowsOK_of (by decide +kernel)
theorem okX6_keep : MOK mX6_keep := ⟨rwX6_keep, wm 58 (by decide +kernel) rfl, ⟨wm 357 (by decide +kernel) rfl, wm 358 (by decide +kernel) rfl⟩, ⟨by decide +kernel, by decide +kernel, by decide +kernel⟩, by decide +kernel, rfl, by decide, by decide⟩
theorem ocX6_keep : MOKc mX6_keep := ⟨okX6_keep, rfl, wm 359 (by decide +kernel) rfl⟩
theorem rwX6_goBack : rowsOK mX6_goBack := rowsOK_of (by decide +kernel)
theorem okX6_goBack : MOK mX6_goBack := ⟨rwX6_goBack, wm 58 (by decide +kernel) rfl, ⟨wm 921 (by decide +kernel) rfl, wm 922 (by decide +kernel) rfl⟩, ⟨by decide +kernel, by decide +kernel, by decide +kernel⟩, by decide +kernel, rfl, by decide, by decide⟩
theorem ocX6_goBack : MOKc mX6_goBack := ⟨okX6_goBack, rfl, wm 923 (by decide +kernel) rfl⟩
theorem rwX6_undo : rowsOK mX6_undo := rowsOK_of (by decide +kernel)
theorem okX6_undo : MOK mX6_undo := ⟨rwX6_undo, wm 58 (by decide +kernel) rfl, ⟨wm 929 (by decide +kernel) rfl, wm 930 (by decide +kernel) rfl⟩, ⟨by decide +kernel, by decide +kernel, by decide +kernel⟩, by decide +kernel, rfl, by decide, by decide⟩
theorem ocX6_undo : MOKc mX6_undo := ⟨okX6_undo, rfl, wm 931 (by decide +kernel) rfl⟩
theorem rwX6_clues : rowsOK mX6_clues := rowsOK_of (by decide +kernel)
theorem okX6_clues : MOK mX6_clues := ⟨rwX6_clues, wm 58 (by decide +kernel) rfl, ⟨wm 361 (by decide +kernel) rfl, wm 362 (by decide +kernel) rfl⟩, ⟨by decide +kernel, by decide +kernel, by decide +kernel⟩, by decide +kernel, rfl, by decide, by decide⟩
theorem ocX6_clues : MOKc mX6_clues := ⟨okX6_clues, rfl, wm 363 (by decide +kernel) rfl⟩
theorem rwX6_sortOf : rowsOK mX6_sortOf := rowsOK_of (by decide +kernel)
theorem okX6_sortOf : MOK mX6_sortOf := ⟨rwX6_sortOf, wm 58 (by decide +kernel) rfl, ⟨wm 589 (by decide +kernel) rfl, wm 590 (by decide +kernel) rfl⟩, ⟨by decide +kernel, by decide +kernel, by decide +kernel⟩, by decide +kernel, rfl, by decide, by decide⟩
theorem ocX6_sortOf : MOKc mX6_sortOf := ⟨okX6_sortOf, rfl, wm 591 (by decide +kernel) rfl⟩
theorem rwX6_itemOf : rowsOK mX6_itemOf := rowsOK_of (by decide +kernel)
theorem okX6_itemOf : MOK mX6_itemOf := ⟨rwX6_itemOf, wm 58 (by decide +kernel) rfl, ⟨wm 665 (by decide +kernel) rfl, wm 666 (by decide +kernel) rfl⟩, ⟨by decide +kernel, by decide +kernel, by decide +kernel⟩, by decide +kernel, rfl, by decide, by decide⟩
theorem ocX6_itemOf : MOKc mX6_itemOf := ⟨okX6_itemOf, rfl, wm 667 (by decide +kernel) rfl⟩
theorem rwX6_orNone : rowsOK mX6_orNone := rowsOK_of (by decide +kernel)
theorem okX6_orNone : MOK mX6_orNone := ⟨rwX6_orNone, wm 58 (by decide +kernel) rfl, wm 671 (by decide +kernel) rfl, ⟨by decide +kernel, by decide +kernel, by decide +kernel⟩, by decide +kernel, rfl, by decide, by decide⟩
theorem ocX6_orNone : MOKc mX6_orNone := ⟨okX6_orNone, rfl, wm 672 (by decide +kernel) rfl⟩
theorem rwX6_placeOf : rowsOK mX6_placeOf := rowsOK_of (by decide +kernel)
theorem okX6_placeOf : MOK mX6_placeOf := ⟨rwX6_placeOf, wm 58 (by decide +kernel) rfl, ⟨wm 674 (by decide +kernel) rfl, wm 675 (by decide +kernel) rfl⟩, ⟨by decide +kernel, by decide +kernel, by decide +kernel⟩, by decide +kernel, rfl, by decide, by decide⟩
theorem ocX6_placeOf : MOKc mX6_placeOf := ⟨okX6_placeOf, rfl, wm 676 (by decide +kernel) rfl⟩
theorem rwX6_isCrossed : rowsOK mX6_isCrossed := rowsOK_of (by decide +kernel)
theorem okX6_isCrossed : MOK mX6_isCrossed := ⟨rwX6_isCrossed, wm 58 (by decide +kernel) rfl, ⟨wm 695 (by decide +kernel) rfl, wm 696 (by decide +kernel) rfl⟩, ⟨by decide +kernel, by decide +kernel, by decide +kernel⟩, by decide +kernel, rfl, by decide, by decide⟩
theorem ocX6_isCrossed : MOKc mX6_isCrossed := ⟨okX6_isCrossed, rfl, wm 697 (by decide +kernel) rfl⟩
theorem rwX6_crosses : rowsOK mX6_crosses := rowsOK_of (by decide +kernel)
theorem okX6_crosses : MOK mX6_crosses := ⟨rwX6_crosses, wm 58 (by decide +kernel) rfl, ⟨wm 365 (by decide +kernel) rfl, wm 366 (by decide +kernel) rfl⟩, ⟨by decide +kernel, by decide +kernel, by decide +kernel⟩, by decide +kernel, rfl, by decide, by decide⟩
theorem ocX6_crosses : MOKc mX6_crosses := ⟨okX6_crosses, rfl, wm 367 (by decide +kernel) rfl⟩
theorem rwX6_crossesByAccount : rowsOK mX6_crossesByAccount := rowsOK_of (by decide +kernel)
theorem okX6_crossesByAccount : MOK mX6_crossesByAccount := ⟨rwX6_crossesByAccount, wm 58 (by decide +kernel) rfl, ⟨wm 382 (by decide +kernel) rfl, wm 383 (by decide +kernel) rfl⟩, ⟨by decide +kernel, by decide +kernel, by decide +kernel⟩, by decide +kernel, rfl, by decide, by decide⟩
theorem ocX6_crossesByAccount : MOKc mX6_crossesByAccount := ⟨okX6_crossesByAccount, rfl, wm 384 (by decide +kernel) rfl⟩
theorem rwX6_made : rowsOK mX6_made := rowsOK_of (by decide +kernel)
theorem okX6_made : MOK mX6_made := ⟨rwX6_made, wm 58 (by decide +kernel) rfl, ⟨wm 386 (by decide +kernel) rfl, wm 387 (by decide +kernel) rfl⟩, ⟨by decide +kernel, by decide +kernel, by decide +kernel⟩, by decide +kernel, rfl, by decide, by decide⟩
theorem ocX6_made : MOKc mX6_made := ⟨okX6_made, rfl, wm 388 (by decide +kernel) rfl⟩
theorem rwX6_left : rowsOK mX6_left := rowsOK_of (by decide +kernel)
theorem okX6_left : MOK mX6_left := ⟨rwX6_left, wm 58 (by decide +kernel) rfl, ⟨wm 953 (by decide +kernel) rfl, wm 954 (by decide +kernel) rfl⟩, ⟨by decide +kernel, by decide +kernel, by decide +kernel⟩, by decide +kernel, rfl, by decide, by decide⟩
theorem ocX6_left : MOKc mX6_left := ⟨okX6_left, rfl, wm 955 (by decide +kernel) rfl⟩
theorem rwX6_leftAtEnd : rowsOK mX6_leftAtEnd := rowsOK_of (by decide +kernel)
theorem okX6_leftAtEnd : MOK mX6_leftAtEnd := ⟨rwX6_leftAtEnd, wm 58 (by decide +kernel) rfl, ⟨wm 468 (by decide +kernel) rfl, wm 6 (by decide +kernel) rfl⟩, ⟨by decide +kernel, by decide +kernel, by decide +kernel⟩, by decide +kernel, rfl, by decide, by decide⟩
theorem ocX6_leftAtEnd : MOKc mX6_leftAtEnd := ⟨okX6_leftAtEnd, rfl, wm 469 (by decide +kernel) rfl⟩
theorem rwX6_leftByTurns : rowsOK mX6_leftByTurns := rowsOK_of (by decide +kernel)
theorem okX6_leftByTurns : MOK mX6_leftByTurns := ⟨rwX6_leftByTurns, wm 58 (by decide +kernel) rfl, ⟨wm 960 (by decide +kernel) rfl, wm 961 (by decide +kernel) rfl⟩, ⟨by decide +kernel, by decide +kernel, by decide +kernel⟩, by decide +kernel, rfl, by decide, by decide⟩
theorem ocX6_leftByTurns : MOKc mX6_leftByTurns := ⟨okX6_leftByTurns, rfl, wm 962 (by decide +kernel) rfl⟩
theorem rwX6_leftAtEndByTurns : rowsOK mX6_leftAtEndByTurns := rowsOK_of (by decide +kernel)
theorem okX6_leftAtEndByTurns : MOK mX6_leftAtEndByTurns := ⟨rwX6_leftAtEndByTurns, wm 58 (by decide +kernel) rfl, ⟨wm 567 (by decide +kernel) rfl, wm 8 (by decide +kernel) rfl⟩, ⟨by decide +kernel, by decide +kernel, by decide +kernel⟩, by decide +kernel, rfl, by decide, by decide⟩
theorem ocX6_leftAtEndByTurns : MOKc mX6_leftAtEndByTurns := ⟨okX6_leftAtEndByTurns, rfl, wm 568 (by decide +kernel) rfl⟩
theorem rwX6_rounds : rowsOK mX6_rounds := rowsOK_of (by decide +kernel)
theorem okX6_rounds : MOK mX6_rounds := ⟨rwX6_rounds, wm 58 (by decide +kernel) rfl, ⟨wm 390 (by decide +kernel) rfl, wm 391 (by decide +kernel) rfl⟩, ⟨by decide +kernel, by decide +kernel, by decide +kernel⟩, by decide +kernel, rfl, by decide, by decide⟩
theorem ocX6_rounds : MOKc mX6_rounds := ⟨okX6_rounds, rfl, wm 392 (by decide +kernel) rfl⟩
theorem rwX6_isContradiction : rowsOK mX6_isContradiction := rowsOK_of (by decide +kernel)
theorem okX6_isContradiction : MOK mX6_isContradiction := ⟨rwX6_isContradiction, wm 58 (by decide +kernel) rfl, ⟨wm 455 (by decide +kernel) rfl, wm 456 (by decide +kernel) rfl⟩, ⟨by decide +kernel, by decide +kernel, by decide +kernel⟩, by decide +kernel, rfl, by decide, by decide⟩
theorem ocX6_isContradiction : MOKc mX6_isContradiction := ⟨okX6_isContradiction, rfl, wm 457 (by decide +kernel) rfl⟩
theorem rwX6_fixedAt : rowsOK mX6_fixedAt := rowsOK_of (by decide +kernel)
theorem okX6_fixedAt : MOK mX6_fixedAt := ⟨rwX6_fixedAt, wm 58 (by decide +kernel) rfl, ⟨wm 967 (by decide +kernel) rfl, wm 968 (by decide +kernel) rfl⟩, ⟨by decide +kernel, by decide +kernel, by decide +kernel⟩, by decide +kernel, rfl, by decide, by decide⟩
theorem ocX6_fixedAt : MOKc mX6_fixedAt := ⟨okX6_fixedAt, rfl, wm 969 (by decide +kernel) rfl⟩
theorem rwX6_fixedItems : rowsOK mX6_fixedItems := rowsOK_of (by decide +kernel)
theorem okX6_fixedItems : MOK mX6_fixedItems := ⟨rwX6_fixedItems, wm 58 (by decide +kernel) rfl, ⟨wm 463 (by decide +kernel) rfl, wm 464 (by decide +kernel) rfl⟩, ⟨by decide +kernel, by decide +kernel, by decide +kernel⟩, by decide +kernel, rfl, by decide, by decide⟩
theorem ocX6_fixedItems : MOKc mX6_fixedItems := ⟨okX6_fixedItems, rfl, wm 465 (by decide +kernel) rfl⟩
theorem rwX6_hint : rowsOK mX6_hint := rowsOK_of (by decide +kernel)
theorem okX6_hint : MOK mX6_hint := ⟨rwX6_hint, wm 58 (by decide +kernel) rfl, ⟨wm 475 (by decide +kernel) rfl, wm 476 (by decide +kernel) rfl⟩, ⟨by decide +kernel, by decide +kernel, by decide +kernel⟩, by decide +kernel, rfl, by decide, by decide⟩
theorem ocX6_hint : MOKc mX6_hint := ⟨okX6_hint, rfl, wm 477 (by decide +kernel) rfl⟩
theorem rwX6_hintBy : rowsOK mX6_hintBy := rowsOK_of (by decide +kernel)
theorem okX6_hintBy : MOK mX6_hintBy := ⟨rwX6_hintBy, wm 58 (by decide +kernel) rfl, ⟨wm 487 (by decide +kernel) rfl, wm 488 (by decide +kernel) rfl⟩, ⟨by decide +kernel, by decide +kernel, by decide +kernel⟩, by decide +kernel, rfl, by decide, by decide⟩
theorem ocX6_hintBy : MOKc mX6_hintBy := ⟨okX6_hintBy, rfl, wm 489 (by decide +kernel) rfl⟩
theorem rwX6_solutions : rowsOK mX6_solutions := rowsOK_of (by decide +kernel)
theorem okX6_solutions : MOK mX6_solutions := ⟨rwX6_solutions, wm 58 (by decide +kernel) rfl, ⟨wm 494 (by decide +kernel) rfl, wm 495 (by decide +kernel) rfl⟩, ⟨by decide +kernel, by decide +kernel, by decide +kernel⟩, by decide +kernel, rfl, by decide, by decide⟩
theorem ocX6_solutions : MOKc mX6_solutions := ⟨okX6_solutions, rfl, wm 496 (by decide +kernel) rfl⟩
theorem rwX6_solutionsBySearch : rowsOK mX6_solutionsBySearch := rowsOK_of (by decide +kernel)
theorem okX6_solutionsBySearch : MOK mX6_solutionsBySearch := ⟨rwX6_solutionsBySearch, wm 58 (by decide +kernel) rfl, ⟨wm 514 (by decide +kernel) rfl, wm 515 (by decide +kernel) rfl⟩, ⟨by decide +kernel, by decide +kernel, by decide +kernel⟩, by decide +kernel, rfl, by decide, by decide⟩
theorem ocX6_solutionsBySearch : MOKc mX6_solutionsBySearch := ⟨okX6_solutionsBySearch, rfl, wm 516 (by decide +kernel) rfl⟩
theorem rwX6_countBySearch : rowsOK mX6_countBySearch := rowsOK_of (by decide +kernel)
theorem okX6_countBySearch : MOK mX6_countBySearch := ⟨rwX6_countBySearch, wm 58 (by decide +kernel) rfl, wm 518 (by decide +kernel) rfl, ⟨by decide +kernel, by decide +kernel, by decide +kernel⟩, by decide +kernel, rfl, by decide, by decide⟩
theorem ocX6_countBySearch : MOKc mX6_countBySearch := ⟨okX6_countBySearch, rfl, wm 519 (by decide +kernel) rfl⟩
theorem rwX6_placeIn : rowsOK mX6_placeIn := rowsOK_of (by decide +kernel)
theorem okX6_placeIn : MOK mX6_placeIn := ⟨rwX6_placeIn, wm 58 (by decide +kernel) rfl, ⟨wm 974 (by decide +kernel) rfl, wm 975 (by decide +kernel) rfl⟩, ⟨by decide +kernel, by decide +kernel, by decide +kernel⟩, by decide +kernel, rfl, by decide, by decide⟩
theorem ocX6_placeIn : MOKc mX6_placeIn := ⟨okX6_placeIn, rfl, wm 976 (by decide +kernel) rfl⟩
theorem rwX6_solutionAt : rowsOK mX6_solutionAt := rowsOK_of (by decide +kernel)
theorem okX6_solutionAt : MOK mX6_solutionAt := ⟨rwX6_solutionAt, wm 58 (by decide +kernel) rfl, ⟨wm 571 (by decide +kernel) rfl, wm 9 (by decide +kernel) rfl⟩, ⟨by decide +kernel, by decide +kernel, by decide +kernel⟩, by decide +kernel, rfl, by decide, by decide⟩
theorem ocX6_solutionAt : MOKc mX6_solutionAt := ⟨okX6_solutionAt, rfl, wm 572 (by decide +kernel) rfl⟩
theorem rwX6_trulyLeft : rowsOK mX6_trulyLeft := rowsOK_of (by decide +kernel)
theorem okX6_trulyLeft : MOK mX6_trulyLeft := ⟨rwX6_trulyLeft, wm 58 (by decide +kernel) rfl, ⟨wm 982 (by decide +kernel) rfl, wm 983 (by decide +kernel) rfl⟩, ⟨by decide +kernel, by decide +kernel, by decide +kernel⟩, by decide +kernel, rfl, by decide, by decide⟩
theorem ocX6_trulyLeft : MOKc mX6_trulyLeft := ⟨okX6_trulyLeft, rfl, wm 984 (by decide +kernel) rfl⟩
theorem rwX6_isSpare : rowsOK mX6_isSpare := rowsOK_of (by decide +kernel)
theorem okX6_isSpare : MOK mX6_isSpare := ⟨rwX6_isSpare, wm 58 (by decide +kernel) rfl, ⟨wm 679 (by decide +kernel) rfl, wm 680 (by decide +kernel) rfl⟩, ⟨by decide +kernel, by decide +kernel, by decide +kernel⟩, by decide +kernel, rfl, by decide, by decide⟩
theorem ocX6_isSpare : MOKc mX6_isSpare := ⟨okX6_isSpare, rfl, wm 681 (by decide +kernel) rfl⟩
theorem rwX6_culprit : rowsOK mX6_culprit := rowsOK_of (by decide +kernel)
theorem okX6_culprit : MOK mX6_culprit := ⟨rwX6_culprit, wm 58 (by decide +kernel) rfl, ⟨wm 537 (by decide +kernel) rfl, wm 538 (by decide +kernel) rfl⟩, ⟨by decide +kernel, by decide +kernel, by decide +kernel⟩, by decide +kernel, rfl, by decide, by decide⟩
theorem ocX6_culprit : MOKc mX6_culprit := ⟨okX6_culprit, rfl, wm 539 (by decide +kernel) rfl⟩
theorem rwX6_barredBy : rowsOK mX6_barredBy := rowsOK_of (by decide +kernel)
theorem okX6_barredBy : MOK mX6_barredBy := ⟨rwX6_barredBy, wm 58 (by decide +kernel) rfl, ⟨wm 686 (by decide +kernel) rfl, wm 687 (by decide +kernel) rfl⟩, ⟨by decide +kernel, by decide +kernel, by decide +kernel⟩, by decide +kernel, rfl, by decide, by decide⟩
theorem ocX6_barredBy : MOKc mX6_barredBy := ⟨okX6_barredBy, rfl, wm 688 (by decide +kernel) rfl⟩
theorem rwX6_isPlain : rowsOK mX6_isPlain := rowsOK_of (by decide +kernel)
theorem okX6_isPlain : MOK mX6_isPlain := ⟨rwX6_isPlain, wm 58 (by decide +kernel) rfl, ⟨wm 541 (by decide +kernel) rfl, wm 542 (by decide +kernel) rfl⟩, ⟨by decide +kernel, by decide +kernel, by decide +kernel⟩, by decide +kernel, rfl, by decide, by decide⟩
theorem ocX6_isPlain : MOKc mX6_isPlain := ⟨okX6_isPlain, rfl, wm 543 (by decide +kernel) rfl⟩
theorem rwX6_fixedShare : rowsOK mX6_fixedShare := rowsOK_of (by decide +kernel)
theorem okX6_fixedShare : MOK mX6_fixedShare := ⟨rwX6_fixedShare, wm 58 (by decide +kernel) rfl, ⟨wm 545 (by decide +kernel) rfl, wm 546 (by decide +kernel) rfl⟩, ⟨by decide +kernel, by decide +kernel, by decide +kernel⟩, by decide +kernel, rfl, by decide, by decide⟩
theorem ocX6_fixedShare : MOKc mX6_fixedShare := ⟨okX6_fixedShare, rfl, wm 547 (by decide +kernel) rfl⟩
theorem rwX6_shareOf : rowsOK mX6_shareOf := rowsOK_of (by decide +kernel)
theorem okX6_shareOf : MOK mX6_shareOf := ⟨rwX6_shareOf, wm 58 (by decide +kernel) rfl, wm 549 (by decide +kernel) rfl, ⟨by decide +kernel, by decide +kernel, by decide +kernel⟩, by decide +kernel, rfl, by decide, by decide⟩
theorem ocX6_shareOf : MOKc mX6_shareOf := ⟨okX6_shareOf, rfl, wm 550 (by decide +kernel) rfl⟩
theorem rwX6_meanLeft : rowsOK mX6_meanLeft := rowsOK_of (by decide +kernel)
theorem okX6_meanLeft : MOK mX6_meanLeft := ⟨rwX6_meanLeft, wm 58 (by decide +kernel) rfl, ⟨wm 553 (by decide +kernel) rfl, wm 554 (by decide +kernel) rfl⟩, ⟨by decide +kernel, by decide +kernel, by decide +kernel⟩, by decide +kernel, rfl, by decide, by decide⟩
theorem ocX6_meanLeft : MOKc mX6_meanLeft := ⟨okX6_meanLeft, rfl, wm 555 (by decide +kernel) rfl⟩
theorem rwX6_meanOf : rowsOK mX6_meanOf := rowsOK_of (by decide +kernel)
theorem okX6_meanOf : MOK mX6_meanOf := ⟨rwX6_meanOf, wm 58 (by decide +kernel) rfl, wm 557 (by decide +kernel) rfl, ⟨by decide +kernel, by decide +kernel, by decide +kernel⟩, by decide +kernel, rfl, by decide, by decide⟩
theorem ocX6_meanOf : MOKc mX6_meanOf := ⟨okX6_meanOf, rfl, wm 558 (by decide +kernel) rfl⟩
theorem rkX6_digest_0 : chunkB cX6_digest tX6_digest_0 = true := by decide +kernel
theorem rkX6_digest_1 : chunkB cX6_digest tX6_digest_1 = true := by decide +kernel
theorem rkX6_digest_2 : chunkB cX6_digest tX6_digest_2 = true := by decide +kernel
theorem rkX6_digest_3 : chunkB cX6_digest tX6_digest_3 = true := by decide +kernel
theorem rkX6_digest_4 : chunkB cX6_digest tX6_digest_4 = true := by decide +kernel
theorem rkX6_digest_5 : chunkB cX6_digest tX6_digest_5 = true := by decide +kernel
theorem rkX6_digest_6 : chunkB cX6_digest tX6_digest_6 = true := by decide +kernel
theorem rkX6_digest_7 : chunkB cX6_digest tX6_digest_7 = true := by decide +kernel
theorem rkX6_digest_8 : chunkB cX6_digest tX6_digest_8 = true := by decide +kernel
theorem rkX6_digest_9 : chunkB cX6_digest tX6_digest_9 = true := by decide +kernel
theorem rkX6_digest_10 : chunkB cX6_digest tX6_digest_10 = true := by decide +kernel
theorem rkX6_digest_11 : chunkB cX6_digest tX6_digest_11 = true := by decide +kernel
theorem rkX6_digest_12 : chunkB cX6_digest tX6_digest_12 = true := by decide +kernel
theorem rkX6_digest_13 : chunkB cX6_digest tX6_digest_13 = true := by decide +kernel
theorem rwX6_digest : rowsOK mX6_digest := rowsOK_of (List.forall_mem_cons.mpr ⟨rkX6_digest_0, List.forall_mem_cons.mpr ⟨rkX6_digest_1, List.forall_mem_cons.mpr ⟨rkX6_digest_2, List.forall_mem_cons.mpr ⟨rkX6_digest_3, List.forall_mem_cons.mpr ⟨rkX6_digest_4, List.forall_mem_cons.mpr ⟨rkX6_digest_5, List.forall_mem_cons.mpr ⟨rkX6_digest_6, List.forall_mem_cons.mpr ⟨rkX6_digest_7, List.forall_mem_cons.mpr ⟨rkX6_digest_8, List.forall_mem_cons.mpr ⟨rkX6_digest_9, List.forall_mem_cons.mpr ⟨rkX6_digest_10, List.forall_mem_cons.mpr ⟨rkX6_digest_11, List.forall_mem_cons.mpr ⟨rkX6_digest_12, List.forall_mem_cons.mpr ⟨rkX6_digest_13, fun _ h => absurd h List.not_mem_nil⟩⟩⟩⟩⟩⟩⟩⟩⟩⟩⟩⟩⟩⟩)
theorem okX6_digest : MOK mX6_digest := ⟨rwX6_digest, wm 58 (by decide +kernel) rfl, ⟨wm 562 (by decide +kernel) rfl, wm 563 (by decide +kernel) rfl⟩, ⟨by decide +kernel, by decide +kernel, by decide +kernel⟩, by decide +kernel, rfl, by decide, by decide⟩
theorem ocX6_digest : MOKc mX6_digest := ⟨okX6_digest, rfl, wm 564 (by decide +kernel) rfl⟩
theorem rwX6_mix : rowsOK mX6_mix := rowsOK_of (by decide +kernel)
theorem okX6_mix : MOK mX6_mix := ⟨rwX6_mix, wm 58 (by decide +kernel) rfl, wm 581 (by decide +kernel) rfl, ⟨by decide +kernel, by decide +kernel, by decide +kernel⟩, by decide +kernel, rfl, by decide, by decide⟩
theorem ocX6_mix : MOKc mX6_mix := ⟨okX6_mix, rfl, wm 582 (by decide +kernel) rfl⟩
theorem rwX6_mixClue : rowsOK mX6_mixClue := rowsOK_of (by decide +kernel)
theorem okX6_mixClue : MOK mX6_mixClue := ⟨rwX6_mixClue, wm 58 (by decide +kernel) rfl, ⟨wm 586 (by decide +kernel) rfl, wm 10 (by decide +kernel) rfl⟩, ⟨by decide +kernel, by decide +kernel, by decide +kernel⟩, by decide +kernel, rfl, by decide, by decide⟩
theorem ocX6_mixClue : MOKc mX6_mixClue := ⟨okX6_mixClue, rfl, wm 587 (by decide +kernel) rfl⟩
theorem rwX6_mixFlag : rowsOK mX6_mixFlag := rowsOK_of (by decide +kernel)
theorem okX6_mixFlag : MOK mX6_mixFlag := ⟨rwX6_mixFlag, wm 58 (by decide +kernel) rfl, wm 683 (by decide +kernel) rfl, ⟨by decide +kernel, by decide +kernel, by decide +kernel⟩, by decide +kernel, rfl, by decide, by decide⟩
theorem ocX6_mixFlag : MOKc mX6_mixFlag := ⟨okX6_mixFlag, rfl, wm 684 (by decide +kernel) rfl⟩
theorem rwX6_mixCrosses : rowsOK mX6_mixCrosses := rowsOK_of (by decide +kernel)
theorem okX6_mixCrosses : MOK mX6_mixCrosses := ⟨rwX6_mixCrosses, wm 58 (by decide +kernel) rfl, ⟨wm 692 (by decide +kernel) rfl, wm 13 (by decide +kernel) rfl⟩, ⟨by decide +kernel, by decide +kernel, by decide +kernel⟩, by decide +kernel, rfl, by decide, by decide⟩
theorem ocX6_mixCrosses : MOKc mX6_mixCrosses := ⟨okX6_mixCrosses, rfl, wm 693 (by decide +kernel) rfl⟩
theorem rwX6_bitsOf : rowsOK mX6_bitsOf := rowsOK_of (by decide +kernel)
theorem okX6_bitsOf : MOK mX6_bitsOf := ⟨rwX6_bitsOf, wm 58 (by decide +kernel) rfl, wm 722 (by decide +kernel) rfl, ⟨by decide +kernel, by decide +kernel, by decide +kernel⟩, by decide +kernel, rfl, by decide, by decide⟩
theorem ocX6_bitsOf : MOKc mX6_bitsOf := ⟨okX6_bitsOf, rfl, wm 723 (by decide +kernel) rfl⟩
theorem rwX6_mixBuffer : rowsOK mX6_mixBuffer := rowsOK_of (by decide +kernel)
theorem okX6_mixBuffer : MOK mX6_mixBuffer := ⟨rwX6_mixBuffer, wm 58 (by decide +kernel) rfl, ⟨wm 727 (by decide +kernel) rfl, wm 14 (by decide +kernel) rfl⟩, ⟨by decide +kernel, by decide +kernel, by decide +kernel⟩, by decide +kernel, rfl, by decide, by decide⟩
theorem ocX6_mixBuffer : MOKc mX6_mixBuffer := ⟨okX6_mixBuffer, rfl, wm 728 (by decide +kernel) rfl⟩
theorem rwX7_same : rowsOK mX7_same := rowsOK_of (by decide +kernel)
theorem okX7_same : MOK mX7_same := ⟨rwX7_same, wm 63 (by decide +kernel) rfl, ⟨wm 1071 (by decide +kernel) rfl, wm 1072 (by decide +kernel) rfl⟩, ⟨by decide +kernel, by decide +kernel, by decide +kernel⟩, by decide +kernel, rfl, by decide, by decide⟩
theorem ocX7_same : MOKc mX7_same := ⟨okX7_same, rfl, wm 1073 (by decide +kernel) rfl⟩
theorem rwX7_pair : rowsOK mX7_pair := rowsOK_of (by decide +kernel)
theorem okX7_pair : MOK mX7_pair := ⟨rwX7_pair, wm 63 (by decide +kernel) rfl, ⟨wm 1076 (by decide +kernel) rfl, wm 19 (by decide +kernel) rfl⟩, ⟨by decide +kernel, by decide +kernel, by decide +kernel⟩, by decide +kernel, rfl, by decide, by decide⟩
theorem ocX7_pair : MOKc mX7_pair := ⟨okX7_pair, rfl, wm 1077 (by decide +kernel) rfl⟩
theorem rwX7_isItem : rowsOK mX7_isItem := rowsOK_of (by decide +kernel)
theorem okX7_isItem : MOK mX7_isItem := ⟨rwX7_isItem, wm 63 (by decide +kernel) rfl, wm 1079 (by decide +kernel) rfl, ⟨by decide +kernel, by decide +kernel, by decide +kernel⟩, by decide +kernel, rfl, by decide, by decide⟩
theorem ocX7_isItem : MOKc mX7_isItem := ⟨okX7_isItem, rfl, wm 1080 (by decide +kernel) rfl⟩
theorem rwX7_in : rowsOK mX7_in := rowsOK_of (by decide +kernel)
theorem okX7_in : MOK mX7_in := ⟨rwX7_in, wm 63 (by decide +kernel) rfl, wm 1082 (by decide +kernel) rfl, ⟨by decide +kernel, by decide +kernel, by decide +kernel⟩, by decide +kernel, rfl, by decide, by decide⟩
theorem ocX7_in : MOKc mX7_in := ⟨okX7_in, rfl, wm 1083 (by decide +kernel) rfl⟩
theorem rwX7_throwing : rowsOK mX7_throwing := rowsOK_of (by decide +kernel)
theorem okX7_throwing : MOK mX7_throwing := ⟨rwX7_throwing, wm 63 (by decide +kernel) rfl, ⟨wm 1086 (by decide +kernel) rfl, wm 20 (by decide +kernel) rfl⟩, ⟨by decide +kernel, by decide +kernel, by decide +kernel⟩, by decide +kernel, rfl, by decide, by decide⟩
theorem ocX7_throwing : MOKc mX7_throwing := ⟨okX7_throwing, rfl, wm 1087 (by decide +kernel) rfl⟩
theorem rwX7_save : rowsOK mX7_save := rowsOK_of (by decide +kernel)
theorem okX7_save : MOK mX7_save := ⟨rwX7_save, wm 63 (by decide +kernel) rfl, ⟨wm 1090 (by decide +kernel) rfl, wm 21 (by decide +kernel) rfl⟩, ⟨by decide +kernel, by decide +kernel, by decide +kernel⟩, by decide +kernel, rfl, by decide, by decide⟩
theorem ocX7_save : MOKc mX7_save := ⟨okX7_save, rfl, wm 1091 (by decide +kernel) rfl⟩
theorem rwX7_adds : rowsOK mX7_adds := rowsOK_of (by decide +kernel)
theorem okX7_adds : MOK mX7_adds := ⟨rwX7_adds, wm 63 (by decide +kernel) rfl, ⟨wm 1094 (by decide +kernel) rfl, wm 22 (by decide +kernel) rfl⟩, ⟨by decide +kernel, by decide +kernel, by decide +kernel⟩, by decide +kernel, rfl, by decide, by decide⟩
theorem ocX7_adds : MOKc mX7_adds := ⟨okX7_adds, rfl, wm 1095 (by decide +kernel) rfl⟩
theorem rwX7_thrown : rowsOK mX7_thrown := rowsOK_of (by decide +kernel)
theorem okX7_thrown : MOK mX7_thrown := ⟨rwX7_thrown, wm 63 (by decide +kernel) rfl, ⟨wm 1067 (by decide +kernel) rfl, wm 1068 (by decide +kernel) rfl⟩, ⟨by decide +kernel, by decide +kernel, by decide +kernel⟩, by decide +kernel, rfl, by decide, by decide⟩
theorem ocX7_thrown : MOKc mX7_thrown := ⟨okX7_thrown, rfl, wm 1069 (by decide +kernel) rfl⟩
theorem rwX7_apart : rowsOK mX7_apart := rowsOK_of (by decide +kernel)
theorem okX7_apart : MOK mX7_apart := ⟨rwX7_apart, wm 63 (by decide +kernel) rfl, ⟨wm 1097 (by decide +kernel) rfl, wm 1098 (by decide +kernel) rfl⟩, ⟨by decide +kernel, by decide +kernel, by decide +kernel⟩, by decide +kernel, rfl, by decide, by decide⟩
theorem ocX7_apart : MOKc mX7_apart := ⟨okX7_apart, rfl, wm 1099 (by decide +kernel) rfl⟩
theorem rwX7_leftOf : rowsOK mX7_leftOf := rowsOK_of (by decide +kernel)
theorem okX7_leftOf : MOK mX7_leftOf := ⟨rwX7_leftOf, wm 63 (by decide +kernel) rfl, ⟨wm 1101 (by decide +kernel) rfl, wm 1102 (by decide +kernel) rfl⟩, ⟨by decide +kernel, by decide +kernel, by decide +kernel⟩, by decide +kernel, rfl, by decide, by decide⟩
theorem ocX7_leftOf : MOKc mX7_leftOf := ⟨okX7_leftOf, rfl, wm 1103 (by decide +kernel) rfl⟩
theorem rwX7_nextTo : rowsOK mX7_nextTo := rowsOK_of (by decide +kernel)
theorem okX7_nextTo : MOK mX7_nextTo := ⟨rwX7_nextTo, wm 63 (by decide +kernel) rfl, ⟨wm 1105 (by decide +kernel) rfl, wm 1106 (by decide +kernel) rfl⟩, ⟨by decide +kernel, by decide +kernel, by decide +kernel⟩, by decide +kernel, rfl, by decide, by decide⟩
theorem ocX7_nextTo : MOKc mX7_nextTo := ⟨okX7_nextTo, rfl, wm 1107 (by decide +kernel) rfl⟩
theorem rwX7_at : rowsOK mX7_at := rowsOK_of (by decide +kernel)
theorem okX7_at : MOK mX7_at := ⟨rwX7_at, wm 63 (by decide +kernel) rfl, ⟨wm 1109 (by decide +kernel) rfl, wm 1110 (by decide +kernel) rfl⟩, ⟨by decide +kernel, by decide +kernel, by decide +kernel⟩, by decide +kernel, rfl, by decide, by decide⟩
theorem ocX7_at : MOKc mX7_at := ⟨okX7_at, rfl, wm 1111 (by decide +kernel) rfl⟩
theorem rwX7_placed : rowsOK mX7_placed := rowsOK_of (by decide +kernel)
theorem okX7_placed : MOK mX7_placed := ⟨rwX7_placed, wm 63 (by decide +kernel) rfl, ⟨wm 1114 (by decide +kernel) rfl, wm 23 (by decide +kernel) rfl⟩, ⟨by decide +kernel, by decide +kernel, by decide +kernel⟩, by decide +kernel, rfl, by decide, by decide⟩
theorem ocX7_placed : MOKc mX7_placed := ⟨okX7_placed, rfl, wm 1115 (by decide +kernel) rfl⟩
theorem rwX7_isPlace : rowsOK mX7_isPlace := rowsOK_of (by decide +kernel)
theorem okX7_isPlace : MOK mX7_isPlace := ⟨rwX7_isPlace, wm 63 (by decide +kernel) rfl, wm 1117 (by decide +kernel) rfl, ⟨by decide +kernel, by decide +kernel, by decide +kernel⟩, by decide +kernel, rfl, by decide, by decide⟩
theorem ocX7_isPlace : MOKc mX7_isPlace := ⟨okX7_isPlace, rfl, wm 1118 (by decide +kernel) rfl⟩
theorem rwX7_notAt : rowsOK mX7_notAt := rowsOK_of (by decide +kernel)
theorem okX7_notAt : MOK mX7_notAt := ⟨rwX7_notAt, wm 63 (by decide +kernel) rfl, ⟨wm 1120 (by decide +kernel) rfl, wm 1121 (by decide +kernel) rfl⟩, ⟨by decide +kernel, by decide +kernel, by decide +kernel⟩, by decide +kernel, rfl, by decide, by decide⟩
theorem ocX7_notAt : MOKc mX7_notAt := ⟨okX7_notAt, rfl, wm 1122 (by decide +kernel) rfl⟩
theorem rwX7_either : rowsOK mX7_either := rowsOK_of (by decide +kernel)
theorem okX7_either : MOK mX7_either := ⟨rwX7_either, wm 63 (by decide +kernel) rfl, ⟨wm 1124 (by decide +kernel) rfl, wm 1125 (by decide +kernel) rfl⟩, ⟨by decide +kernel, by decide +kernel, by decide +kernel⟩, by decide +kernel, rfl, by decide, by decide⟩
theorem ocX7_either : MOKc mX7_either := ⟨okX7_either, rfl, wm 1126 (by decide +kernel) rfl⟩
theorem rwX7_withdraw : rowsOK mX7_withdraw := rowsOK_of (by decide +kernel)
theorem okX7_withdraw : MOK mX7_withdraw := ⟨rwX7_withdraw, wm 63 (by decide +kernel) rfl, ⟨wm 1128 (by decide +kernel) rfl, wm 1129 (by decide +kernel) rfl⟩, ⟨by decide +kernel, by decide +kernel, by decide +kernel⟩, by decide +kernel, rfl, by decide, by decide⟩
theorem ocX7_withdraw : MOKc mX7_withdraw := ⟨okX7_withdraw, rfl, wm 1130 (by decide +kernel) rfl⟩
theorem rwX7_isClue : rowsOK mX7_isClue := rowsOK_of (by decide +kernel)
theorem okX7_isClue : MOK mX7_isClue := ⟨rwX7_isClue, wm 63 (by decide +kernel) rfl, ⟨wm 1133 (by decide +kernel) rfl, wm 24 (by decide +kernel) rfl⟩, ⟨by decide +kernel, by decide +kernel, by decide +kernel⟩, by decide +kernel, rfl, by decide, by decide⟩
theorem ocX7_isClue : MOKc mX7_isClue := ⟨okX7_isClue, rfl, wm 1134 (by decide +kernel) rfl⟩
theorem rwX7_cross : rowsOK mX7_cross := rowsOK_of (by decide +kernel)
theorem okX7_cross : MOK mX7_cross := ⟨rwX7_cross, wm 63 (by decide +kernel) rfl, ⟨wm 1136 (by decide +kernel) rfl, wm 1137 (by decide +kernel) rfl⟩, ⟨by decide +kernel, by decide +kernel, by decide +kernel⟩, by decide +kernel, rfl, by decide, by decide⟩
theorem ocX7_cross : MOKc mX7_cross := ⟨okX7_cross, rfl, wm 1138 (by decide +kernel) rfl⟩
theorem rwX7_crossed : rowsOK mX7_crossed := rowsOK_of (by decide +kernel)
theorem okX7_crossed : MOK mX7_crossed := ⟨rwX7_crossed, wm 63 (by decide +kernel) rfl, ⟨wm 1141 (by decide +kernel) rfl, wm 25 (by decide +kernel) rfl⟩, ⟨by decide +kernel, by decide +kernel, by decide +kernel⟩, by decide +kernel, rfl, by decide, by decide⟩
theorem ocX7_crossed : MOKc mX7_crossed := ⟨okX7_crossed, rfl, wm 1142 (by decide +kernel) rfl⟩
theorem rwX7_crossesOut : rowsOK mX7_crossesOut := rowsOK_of (by decide +kernel)
theorem okX7_crossesOut : MOK mX7_crossesOut := ⟨rwX7_crossesOut, wm 63 (by decide +kernel) rfl, ⟨wm 1145 (by decide +kernel) rfl, wm 26 (by decide +kernel) rfl⟩, ⟨by decide +kernel, by decide +kernel, by decide +kernel⟩, by decide +kernel, rfl, by decide, by decide⟩
theorem ocX7_crossesOut : MOKc mX7_crossesOut := ⟨okX7_crossesOut, rfl, wm 1146 (by decide +kernel) rfl⟩
theorem rwX7_bits : rowsOK mX7_bits := rowsOK_of (by decide +kernel)
theorem okX7_bits : MOK mX7_bits := ⟨rwX7_bits, wm 63 (by decide +kernel) rfl, wm 1148 (by decide +kernel) rfl, ⟨by decide +kernel, by decide +kernel, by decide +kernel⟩, by decide +kernel, rfl, by decide, by decide⟩
theorem ocX7_bits : MOKc mX7_bits := ⟨okX7_bits, rfl, wm 1149 (by decide +kernel) rfl⟩
theorem rwX7_rubOut : rowsOK mX7_rubOut := rowsOK_of (by decide +kernel)
theorem okX7_rubOut : MOK mX7_rubOut := ⟨rwX7_rubOut, wm 63 (by decide +kernel) rfl, ⟨wm 1151 (by decide +kernel) rfl, wm 1152 (by decide +kernel) rfl⟩, ⟨by decide +kernel, by decide +kernel, by decide +kernel⟩, by decide +kernel, rfl, by decide, by decide⟩
theorem ocX7_rubOut : MOKc mX7_rubOut := ⟨okX7_rubOut, rfl, wm 1153 (by decide +kernel) rfl⟩
theorem rwX7_rubAllOut : rowsOK mX7_rubAllOut := rowsOK_of (by decide +kernel)
theorem okX7_rubAllOut : MOK mX7_rubAllOut := ⟨rwX7_rubAllOut, wm 63 (by decide +kernel) rfl, ⟨wm 1155 (by decide +kernel) rfl, wm 1156 (by decide +kernel) rfl⟩, ⟨by decide +kernel, by decide +kernel, by decide +kernel⟩, by decide +kernel, rfl, by decide, by decide⟩
theorem ocX7_rubAllOut : MOKc mX7_rubAllOut := ⟨okX7_rubAllOut, rfl, wm 1157 (by decide +kernel) rfl⟩
theorem rwX7_allCrosses : rowsOK mX7_allCrosses := rowsOK_of (by decide +kernel)
theorem okX7_allCrosses : MOK mX7_allCrosses := ⟨rwX7_allCrosses, wm 63 (by decide +kernel) rfl, ⟨wm 1160 (by decide +kernel) rfl, wm 27 (by decide +kernel) rfl⟩, ⟨by decide +kernel, by decide +kernel, by decide +kernel⟩, by decide +kernel, rfl, by decide, by decide⟩
theorem ocX7_allCrosses : MOKc mX7_allCrosses := ⟨okX7_allCrosses, rfl, wm 1161 (by decide +kernel) rfl⟩
theorem rwX7_settle : rowsOK mX7_settle := rowsOK_of (by decide +kernel)
theorem okX7_settle : MOK mX7_settle := ⟨rwX7_settle, wm 63 (by decide +kernel) rfl, ⟨wm 1163 (by decide +kernel) rfl, wm 1164 (by decide +kernel) rfl⟩, ⟨by decide +kernel, by decide +kernel, by decide +kernel⟩, by decide +kernel, rfl, by decide, by decide⟩
theorem ocX7_settle : MOKc mX7_settle := ⟨okX7_settle, rfl, wm 1165 (by decide +kernel) rfl⟩
theorem rkX7_propagates_0 : chunkB cX7_propagates tX7_propagates_0 = true := by decide +kernel
theorem rkX7_propagates_1 : chunkB cX7_propagates tX7_propagates_1 = true := by decide +kernel
theorem rkX7_propagates_2 : chunkB cX7_propagates tX7_propagates_2 = true := by decide +kernel
theorem rkX7_propagates_3 : chunkB cX7_propagates tX7_propagates_3 = true := by decide +kernel
theorem rkX7_propagates_4 : chunkB cX7_propagates tX7_propagates_4 = true := by decide +kernel
theorem rkX7_propagates_5 : chunkB cX7_propagates tX7_propagates_5 = true := by decide +kernel
theorem rkX7_propagates_6 : chunkB cX7_propagates tX7_propagates_6 = true := by decide +kernel
theorem rkX7_propagates_7 : chunkB cX7_propagates tX7_propagates_7 = true := by decide +kernel
theorem rwX7_propagates : rowsOK mX7_propagates := rowsOK_of (List.forall_mem_cons.mpr ⟨rkX7_propagates_0, List.forall_mem_cons.mpr ⟨rkX7_propagates_1, List.forall_mem_cons.mpr ⟨rkX7_propagates_2, List.forall_mem_cons.mpr ⟨rkX7_propagates_3, List.forall_mem_cons.mpr ⟨rkX7_propagates_4, List.forall_mem_cons.mpr ⟨rkX7_propagates_5, List.forall_mem_cons.mpr ⟨rkX7_propagates_6, List.forall_mem_cons.mpr ⟨rkX7_propagates_7, fun _ h => absurd h List.not_mem_nil⟩⟩⟩⟩⟩⟩⟩⟩)
theorem okX7_propagates : MOK mX7_propagates := ⟨rwX7_propagates, wm 63 (by decide +kernel) rfl, ⟨wm 1168 (by decide +kernel) rfl, wm 28 (by decide +kernel) rfl⟩, ⟨by decide +kernel, by decide +kernel, by decide +kernel⟩, by decide +kernel, rfl, by decide, by decide⟩
theorem ocX7_propagates : MOKc mX7_propagates := ⟨okX7_propagates, rfl, wm 1169 (by decide +kernel) rfl⟩
theorem rwX7_begins : rowsOK mX7_begins := rowsOK_of (by decide +kernel)
theorem okX7_begins : MOK mX7_begins := ⟨rwX7_begins, wm 63 (by decide +kernel) rfl, ⟨wm 1172 (by decide +kernel) rfl, wm 29 (by decide +kernel) rfl⟩, ⟨by decide +kernel, by decide +kernel, by decide +kernel⟩, by decide +kernel, rfl, by decide, by decide⟩
theorem ocX7_begins : MOKc mX7_begins := ⟨okX7_begins, rfl, wm 1173 (by decide +kernel) rfl⟩
theorem rwX7_ruledBy : rowsOK mX7_ruledBy := rowsOK_of (by decide +kernel)
theorem okX7_ruledBy : MOK mX7_ruledBy := ⟨rwX7_ruledBy, wm 63 (by decide +kernel) rfl, ⟨wm 1176 (by decide +kernel) rfl, wm 30 (by decide +kernel) rfl⟩, ⟨by decide +kernel, by decide +kernel, by decide +kernel⟩, by decide +kernel, rfl, by decide, by decide⟩
theorem ocX7_ruledBy : MOKc mX7_ruledBy := ⟨okX7_ruledBy, rfl, wm 1177 (by decide +kernel) rfl⟩
theorem rwX7_isOf : rowsOK mX7_isOf := rowsOK_of (by decide +kernel)
theorem okX7_isOf : MOK mX7_isOf := ⟨rwX7_isOf, wm 63 (by decide +kernel) rfl, ⟨wm 1180 (by decide +kernel) rfl, wm 31 (by decide +kernel) rfl⟩, ⟨by decide +kernel, by decide +kernel, by decide +kernel⟩, by decide +kernel, rfl, by decide, by decide⟩
theorem ocX7_isOf : MOKc mX7_isOf := ⟨okX7_isOf, rfl, wm 1181 (by decide +kernel) rfl⟩
theorem rwX7_item : rowsOK mX7_item := rowsOK_of (by decide +kernel)
theorem okX7_item : MOK mX7_item := ⟨rwX7_item, wm 63 (by decide +kernel) rfl, ⟨wm 1184 (by decide +kernel) rfl, wm 32 (by decide +kernel) rfl⟩, ⟨by decide +kernel, by decide +kernel, by decide +kernel⟩, by decide +kernel, rfl, by decide, by decide⟩
theorem ocX7_item : MOKc mX7_item := ⟨okX7_item, rfl, wm 1185 (by decide +kernel) rfl⟩
theorem rwX7_sort : rowsOK mX7_sort := rowsOK_of (by decide +kernel)
theorem okX7_sort : MOK mX7_sort := ⟨rwX7_sort, wm 63 (by decide +kernel) rfl, ⟨wm 1188 (by decide +kernel) rfl, wm 33 (by decide +kernel) rfl⟩, ⟨by decide +kernel, by decide +kernel, by decide +kernel⟩, by decide +kernel, rfl, by decide, by decide⟩
theorem ocX7_sort : MOKc mX7_sort := ⟨okX7_sort, rfl, wm 1189 (by decide +kernel) rfl⟩
theorem rkX7_holds_0 : chunkB cX7_holds tX7_holds_0 = true := by decide +kernel
theorem rkX7_holds_1 : chunkB cX7_holds tX7_holds_1 = true := by decide +kernel
theorem rkX7_holds_2 : chunkB cX7_holds tX7_holds_2 = true := by decide +kernel
theorem rkX7_holds_3 : chunkB cX7_holds tX7_holds_3 = true := by decide +kernel
theorem rkX7_holds_4 : chunkB cX7_holds tX7_holds_4 = true := by decide +kernel
theorem rkX7_holds_5 : chunkB cX7_holds tX7_holds_5 = true := by decide +kernel
theorem rkX7_holds_6 : chunkB cX7_holds tX7_holds_6 = true := by decide +kernel
theorem rkX7_holds_7 : chunkB cX7_holds tX7_holds_7 = true := by decide +kernel
theorem rkX7_holds_8 : chunkB cX7_holds tX7_holds_8 = true := by decide +kernel
theorem rkX7_holds_9 : chunkB cX7_holds tX7_holds_9 = true := by decide +kernel
theorem rkX7_holds_10 : chunkB cX7_holds tX7_holds_10 = true := by decide +kernel
theorem rkX7_holds_11 : chunkB cX7_holds tX7_holds_11 = true := by decide +kernel
theorem rwX7_holds : rowsOK mX7_holds := rowsOK_of (List.forall_mem_cons.mpr ⟨rkX7_holds_0, List.forall_mem_cons.mpr ⟨rkX7_holds_1, List.forall_mem_cons.mpr ⟨rkX7_holds_2, List.forall_mem_cons.mpr ⟨rkX7_holds_3, List.forall_mem_cons.mpr ⟨rkX7_holds_4, List.forall_mem_cons.mpr ⟨rkX7_holds_5, List.forall_mem_cons.mpr ⟨rkX7_holds_6, List.forall_mem_cons.mpr ⟨rkX7_holds_7, List.forall_mem_cons.mpr ⟨rkX7_holds_8, List.forall_mem_cons.mpr ⟨rkX7_holds_9, List.forall_mem_cons.mpr ⟨rkX7_holds_10, List.forall_mem_cons.mpr ⟨rkX7_holds_11, fun _ h => absurd h List.not_mem_nil⟩⟩⟩⟩⟩⟩⟩⟩⟩⟩⟩⟩)
theorem okX7_holds : MOK mX7_holds := ⟨rwX7_holds, wm 63 (by decide +kernel) rfl, ⟨wm 1192 (by decide +kernel) rfl, wm 34 (by decide +kernel) rfl⟩, ⟨by decide +kernel, by decide +kernel, by decide +kernel⟩, by decide +kernel, rfl, by decide, by decide⟩
theorem ocX7_holds : MOKc mX7_holds := ⟨okX7_holds, rfl, wm 1193 (by decide +kernel) rfl⟩
theorem rwX7_fits : rowsOK mX7_fits := rowsOK_of (by decide +kernel)
theorem okX7_fits : MOK mX7_fits := ⟨rwX7_fits, wm 63 (by decide +kernel) rfl, wm 1195 (by decide +kernel) rfl, ⟨by decide +kernel, by decide +kernel, by decide +kernel⟩, by decide +kernel, rfl, by decide, by decide⟩
theorem ocX7_fits : MOKc mX7_fits := ⟨okX7_fits, rfl, wm 1196 (by decide +kernel) rfl⟩
theorem rwX7_append : rowsOK mX7_append := rowsOK_of (by decide +kernel)
theorem okX7_append : MOK mX7_append := ⟨rwX7_append, wm 63 (by decide +kernel) rfl, ⟨wm 1198 (by decide +kernel) rfl, wm 1199 (by decide +kernel) rfl⟩, ⟨by decide +kernel, by decide +kernel, by decide +kernel⟩, by decide +kernel, rfl, by decide, by decide⟩
theorem ocX7_append : MOKc mX7_append := ⟨okX7_append, rfl, wm 1200 (by decide +kernel) rfl⟩
theorem rwX7_clearBuffer : rowsOK mX7_clearBuffer := rowsOK_of (by decide +kernel)
theorem okX7_clearBuffer : MOK mX7_clearBuffer := ⟨rwX7_clearBuffer, wm 63 (by decide +kernel) rfl, ⟨wm 1202 (by decide +kernel) rfl, wm 1203 (by decide +kernel) rfl⟩, ⟨by decide +kernel, by decide +kernel, by decide +kernel⟩, by decide +kernel, rfl, by decide, by decide⟩
theorem ocX7_clearBuffer : MOKc mX7_clearBuffer := ⟨okX7_clearBuffer, rfl, wm 1204 (by decide +kernel) rfl⟩
theorem rwX7_firstError : rowsOK mX7_firstError := rowsOK_of (by decide +kernel)
theorem okX7_firstError : MOK mX7_firstError := ⟨rwX7_firstError, wm 63 (by decide +kernel) rfl, ⟨wm 1206 (by decide +kernel) rfl, wm 1207 (by decide +kernel) rfl⟩, ⟨by decide +kernel, by decide +kernel, by decide +kernel⟩, by decide +kernel, rfl, by decide, by decide⟩
theorem ocX7_firstError : MOKc mX7_firstError := ⟨okX7_firstError, rfl, wm 1208 (by decide +kernel) rfl⟩
theorem rwX7_go : rowsOK mX7_go := rowsOK_of (by decide +kernel)
theorem okX7_go : MOK mX7_go := ⟨rwX7_go, wm 63 (by decide +kernel) rfl, ⟨wm 1211 (by decide +kernel) rfl, wm 35 (by decide +kernel) rfl⟩, ⟨by decide +kernel, by decide +kernel, by decide +kernel⟩, by decide +kernel, rfl, by decide, by decide⟩
theorem ocX7_go : MOKc mX7_go := ⟨okX7_go, rfl, wm 1212 (by decide +kernel) rfl⟩
theorem rkX7_part_0 : chunkB cX7_part tX7_part_0 = true := by decide +kernel
theorem rkX7_part_1 : chunkB cX7_part tX7_part_1 = true := by decide +kernel
theorem rkX7_part_2 : chunkB cX7_part tX7_part_2 = true := by decide +kernel
theorem rkX7_part_3 : chunkB cX7_part tX7_part_3 = true := by decide +kernel
theorem rkX7_part_4 : chunkB cX7_part tX7_part_4 = true := by decide +kernel
theorem rkX7_part_5 : chunkB cX7_part tX7_part_5 = true := by decide +kernel
theorem rkX7_part_6 : chunkB cX7_part tX7_part_6 = true := by decide +kernel
theorem rkX7_part_7 : chunkB cX7_part tX7_part_7 = true := by decide +kernel
theorem rwX7_part : rowsOK mX7_part := rowsOK_of (List.forall_mem_cons.mpr ⟨rkX7_part_0, List.forall_mem_cons.mpr ⟨rkX7_part_1, List.forall_mem_cons.mpr ⟨rkX7_part_2, List.forall_mem_cons.mpr ⟨rkX7_part_3, List.forall_mem_cons.mpr ⟨rkX7_part_4, List.forall_mem_cons.mpr ⟨rkX7_part_5, List.forall_mem_cons.mpr ⟨rkX7_part_6, List.forall_mem_cons.mpr ⟨rkX7_part_7, fun _ h => absurd h List.not_mem_nil⟩⟩⟩⟩⟩⟩⟩⟩)
theorem okX7_part : MOK mX7_part := ⟨rwX7_part, wm 63 (by decide +kernel) rfl, ⟨wm 1215 (by decide +kernel) rfl, wm 36 (by decide +kernel) rfl⟩, ⟨by decide +kernel, by decide +kernel, by decide +kernel⟩, by decide +kernel, rfl, by decide, by decide⟩
theorem ocX7_part : MOKc mX7_part := ⟨okX7_part, rfl, wm 1216 (by decide +kernel) rfl⟩
theorem rwX7_sign : rowsOK mX7_sign := rowsOK_of (by decide +kernel)
theorem okX7_sign : MOK mX7_sign := ⟨rwX7_sign, wm 63 (by decide +kernel) rfl, ⟨wm 1219 (by decide +kernel) rfl, wm 37 (by decide +kernel) rfl⟩, ⟨by decide +kernel, by decide +kernel, by decide +kernel⟩, by decide +kernel, rfl, by decide, by decide⟩
theorem ocX7_sign : MOKc mX7_sign := ⟨okX7_sign, rfl, wm 1220 (by decide +kernel) rfl⟩
theorem rwX7_step : rowsOK mX7_step := rowsOK_of (by decide +kernel)
theorem okX7_step : MOK mX7_step := ⟨rwX7_step, wm 63 (by decide +kernel) rfl, ⟨wm 1223 (by decide +kernel) rfl, wm 38 (by decide +kernel) rfl⟩, ⟨by decide +kernel, by decide +kernel, by decide +kernel⟩, by decide +kernel, rfl, by decide, by decide⟩
theorem ocX7_step : MOKc mX7_step := ⟨okX7_step, rfl, wm 1224 (by decide +kernel) rfl⟩
theorem rwX7_letter : rowsOK mX7_letter := rowsOK_of (by decide +kernel)
theorem okX7_letter : MOK mX7_letter := ⟨rwX7_letter, wm 63 (by decide +kernel) rfl, ⟨wm 1227 (by decide +kernel) rfl, wm 39 (by decide +kernel) rfl⟩, ⟨by decide +kernel, by decide +kernel, by decide +kernel⟩, by decide +kernel, rfl, by decide, by decide⟩
theorem ocX7_letter : MOKc mX7_letter := ⟨okX7_letter, rfl, wm 1228 (by decide +kernel) rfl⟩
theorem rwX7_digit : rowsOK mX7_digit := rowsOK_of (by decide +kernel)
theorem okX7_digit : MOK mX7_digit := ⟨rwX7_digit, wm 63 (by decide +kernel) rfl, ⟨wm 1231 (by decide +kernel) rfl, wm 40 (by decide +kernel) rfl⟩, ⟨by decide +kernel, by decide +kernel, by decide +kernel⟩, by decide +kernel, rfl, by decide, by decide⟩
theorem ocX7_digit : MOKc mX7_digit := ⟨okX7_digit, rfl, wm 1232 (by decide +kernel) rfl⟩
theorem rwX7_take : rowsOK mX7_take := rowsOK_of (by decide +kernel)
theorem okX7_take : MOK mX7_take := ⟨rwX7_take, wm 63 (by decide +kernel) rfl, ⟨wm 1234 (by decide +kernel) rfl, wm 1235 (by decide +kernel) rfl⟩, ⟨by decide +kernel, by decide +kernel, by decide +kernel⟩, by decide +kernel, rfl, by decide, by decide⟩
theorem ocX7_take : MOKc mX7_take := ⟨okX7_take, rfl, wm 1236 (by decide +kernel) rfl⟩
theorem rwX7_keep : rowsOK mX7_keep := rowsOK_of (by decide +kernel)
theorem okX7_keep : MOK mX7_keep := ⟨rwX7_keep, wm 63 (by decide +kernel) rfl, ⟨wm 1238 (by decide +kernel) rfl, wm 1239 (by decide +kernel) rfl⟩, ⟨by decide +kernel, by decide +kernel, by decide +kernel⟩, by decide +kernel, rfl, by decide, by decide⟩
theorem ocX7_keep : MOKc mX7_keep := ⟨okX7_keep, rfl, wm 1240 (by decide +kernel) rfl⟩
theorem rwX7_goBack : rowsOK mX7_goBack := rowsOK_of (by decide +kernel)
theorem okX7_goBack : MOK mX7_goBack := ⟨rwX7_goBack, wm 63 (by decide +kernel) rfl, ⟨wm 1242 (by decide +kernel) rfl, wm 1243 (by decide +kernel) rfl⟩, ⟨by decide +kernel, by decide +kernel, by decide +kernel⟩, by decide +kernel, rfl, by decide, by decide⟩
theorem ocX7_goBack : MOKc mX7_goBack := ⟨okX7_goBack, rfl, wm 1244 (by decide +kernel) rfl⟩
theorem rwX7_undo : rowsOK mX7_undo := rowsOK_of (by decide +kernel)
theorem okX7_undo : MOK mX7_undo := ⟨rwX7_undo, wm 63 (by decide +kernel) rfl, ⟨wm 1246 (by decide +kernel) rfl, wm 1247 (by decide +kernel) rfl⟩, ⟨by decide +kernel, by decide +kernel, by decide +kernel⟩, by decide +kernel, rfl, by decide, by decide⟩
theorem ocX7_undo : MOKc mX7_undo := ⟨okX7_undo, rfl, wm 1248 (by decide +kernel) rfl⟩
theorem rwX7_clues : rowsOK mX7_clues := rowsOK_of (by decide +kernel)
theorem okX7_clues : MOK mX7_clues := ⟨rwX7_clues, wm 63 (by decide +kernel) rfl, ⟨wm 1250 (by decide +kernel) rfl, wm 1251 (by decide +kernel) rfl⟩, ⟨by decide +kernel, by decide +kernel, by decide +kernel⟩, by decide +kernel, rfl, by decide, by decide⟩
theorem ocX7_clues : MOKc mX7_clues := ⟨okX7_clues, rfl, wm 1252 (by decide +kernel) rfl⟩
theorem rwX7_sortOf : rowsOK mX7_sortOf := rowsOK_of (by decide +kernel)
theorem okX7_sortOf : MOK mX7_sortOf := ⟨rwX7_sortOf, wm 63 (by decide +kernel) rfl, ⟨wm 1254 (by decide +kernel) rfl, wm 1255 (by decide +kernel) rfl⟩, ⟨by decide +kernel, by decide +kernel, by decide +kernel⟩, by decide +kernel, rfl, by decide, by decide⟩
theorem ocX7_sortOf : MOKc mX7_sortOf := ⟨okX7_sortOf, rfl, wm 1256 (by decide +kernel) rfl⟩
theorem rwX7_itemOf : rowsOK mX7_itemOf := rowsOK_of (by decide +kernel)
theorem okX7_itemOf : MOK mX7_itemOf := ⟨rwX7_itemOf, wm 63 (by decide +kernel) rfl, ⟨wm 1258 (by decide +kernel) rfl, wm 1259 (by decide +kernel) rfl⟩, ⟨by decide +kernel, by decide +kernel, by decide +kernel⟩, by decide +kernel, rfl, by decide, by decide⟩
theorem ocX7_itemOf : MOKc mX7_itemOf := ⟨okX7_itemOf, rfl, wm 1260 (by decide +kernel) rfl⟩
theorem rwX7_placeOf : rowsOK mX7_placeOf := rowsOK_of (by decide +kernel)
theorem okX7_placeOf : MOK mX7_placeOf := ⟨rwX7_placeOf, wm 63 (by decide +kernel) rfl, ⟨wm 1262 (by decide +kernel) rfl, wm 1263 (by decide +kernel) rfl⟩, ⟨by decide +kernel, by decide +kernel, by decide +kernel⟩, by decide +kernel, rfl, by decide, by decide⟩
theorem ocX7_placeOf : MOKc mX7_placeOf := ⟨okX7_placeOf, rfl, wm 1264 (by decide +kernel) rfl⟩
theorem rwX7_placeIn1 : rowsOK mX7_placeIn1 := rowsOK_of (by decide +kernel)
theorem okX7_placeIn1 : MOK mX7_placeIn1 := ⟨rwX7_placeIn1, wm 63 (by decide +kernel) rfl, ⟨wm 1267 (by decide +kernel) rfl, wm 41 (by decide +kernel) rfl⟩, ⟨by decide +kernel, by decide +kernel, by decide +kernel⟩, by decide +kernel, rfl, by decide, by decide⟩
theorem ocX7_placeIn1 : MOKc mX7_placeIn1 := ⟨okX7_placeIn1, rfl, wm 1268 (by decide +kernel) rfl⟩
theorem rwX7_isCrossed : rowsOK mX7_isCrossed := rowsOK_of (by decide +kernel)
theorem okX7_isCrossed : MOK mX7_isCrossed := ⟨rwX7_isCrossed, wm 63 (by decide +kernel) rfl, ⟨wm 1270 (by decide +kernel) rfl, wm 1271 (by decide +kernel) rfl⟩, ⟨by decide +kernel, by decide +kernel, by decide +kernel⟩, by decide +kernel, rfl, by decide, by decide⟩
theorem ocX7_isCrossed : MOKc mX7_isCrossed := ⟨okX7_isCrossed, rfl, wm 1272 (by decide +kernel) rfl⟩
theorem rwX7_crosses : rowsOK mX7_crosses := rowsOK_of (by decide +kernel)
theorem okX7_crosses : MOK mX7_crosses := ⟨rwX7_crosses, wm 63 (by decide +kernel) rfl, ⟨wm 1274 (by decide +kernel) rfl, wm 1275 (by decide +kernel) rfl⟩, ⟨by decide +kernel, by decide +kernel, by decide +kernel⟩, by decide +kernel, rfl, by decide, by decide⟩
theorem ocX7_crosses : MOKc mX7_crosses := ⟨okX7_crosses, rfl, wm 1276 (by decide +kernel) rfl⟩
theorem rwX7_crossesByAccount : rowsOK mX7_crossesByAccount := rowsOK_of (by decide +kernel)
theorem okX7_crossesByAccount : MOK mX7_crossesByAccount := ⟨rwX7_crossesByAccount, wm 63 (by decide +kernel) rfl, ⟨wm 1278 (by decide +kernel) rfl, wm 1279 (by decide +kernel) rfl⟩, ⟨by decide +kernel, by decide +kernel, by decide +kernel⟩, by decide +kernel, rfl, by decide, by decide⟩
theorem ocX7_crossesByAccount : MOKc mX7_crossesByAccount := ⟨okX7_crossesByAccount, rfl, wm 1280 (by decide +kernel) rfl⟩
theorem rwX7_made : rowsOK mX7_made := rowsOK_of (by decide +kernel)
theorem okX7_made : MOK mX7_made := ⟨rwX7_made, wm 63 (by decide +kernel) rfl, ⟨wm 1282 (by decide +kernel) rfl, wm 1283 (by decide +kernel) rfl⟩, ⟨by decide +kernel, by decide +kernel, by decide +kernel⟩, by decide +kernel, rfl, by decide, by decide⟩
theorem ocX7_made : MOKc mX7_made := ⟨okX7_made, rfl, wm 1284 (by decide +kernel) rfl⟩
theorem rwX7_left : rowsOK mX7_left := rowsOK_of (by decide +kernel)
theorem okX7_left : MOK mX7_left := ⟨rwX7_left, wm 63 (by decide +kernel) rfl, ⟨wm 1286 (by decide +kernel) rfl, wm 1287 (by decide +kernel) rfl⟩, ⟨by decide +kernel, by decide +kernel, by decide +kernel⟩, by decide +kernel, rfl, by decide, by decide⟩
theorem ocX7_left : MOKc mX7_left := ⟨okX7_left, rfl, wm 1288 (by decide +kernel) rfl⟩
theorem rwX7_toldLeft : rowsOK mX7_toldLeft := rowsOK_of (by decide +kernel)
theorem okX7_toldLeft : MOK mX7_toldLeft := ⟨rwX7_toldLeft, wm 63 (by decide +kernel) rfl, ⟨wm 1291 (by decide +kernel) rfl, wm 42 (by decide +kernel) rfl⟩, ⟨by decide +kernel, by decide +kernel, by decide +kernel⟩, by decide +kernel, rfl, by decide, by decide⟩
theorem ocX7_toldLeft : MOKc mX7_toldLeft := ⟨okX7_toldLeft, rfl, wm 1292 (by decide +kernel) rfl⟩
theorem rwX7_leftOfAll : rowsOK mX7_leftOfAll := rowsOK_of (by decide +kernel)
theorem okX7_leftOfAll : MOK mX7_leftOfAll := ⟨rwX7_leftOfAll, wm 63 (by decide +kernel) rfl, ⟨wm 1295 (by decide +kernel) rfl, wm 43 (by decide +kernel) rfl⟩, ⟨by decide +kernel, by decide +kernel, by decide +kernel⟩, by decide +kernel, rfl, by decide, by decide⟩
theorem ocX7_leftOfAll : MOKc mX7_leftOfAll := ⟨okX7_leftOfAll, rfl, wm 1296 (by decide +kernel) rfl⟩
theorem rwX7_leftByTurns : rowsOK mX7_leftByTurns := rowsOK_of (by decide +kernel)
theorem okX7_leftByTurns : MOK mX7_leftByTurns := ⟨rwX7_leftByTurns, wm 63 (by decide +kernel) rfl, ⟨wm 1298 (by decide +kernel) rfl, wm 1299 (by decide +kernel) rfl⟩, ⟨by decide +kernel, by decide +kernel, by decide +kernel⟩, by decide +kernel, rfl, by decide, by decide⟩
theorem ocX7_leftByTurns : MOKc mX7_leftByTurns := ⟨okX7_leftByTurns, rfl, wm 1300 (by decide +kernel) rfl⟩
theorem rwX7_rounds : rowsOK mX7_rounds := rowsOK_of (by decide +kernel)
theorem okX7_rounds : MOK mX7_rounds := ⟨rwX7_rounds, wm 63 (by decide +kernel) rfl, ⟨wm 1302 (by decide +kernel) rfl, wm 1303 (by decide +kernel) rfl⟩, ⟨by decide +kernel, by decide +kernel, by decide +kernel⟩, by decide +kernel, rfl, by decide, by decide⟩
theorem ocX7_rounds : MOKc mX7_rounds := ⟨okX7_rounds, rfl, wm 1304 (by decide +kernel) rfl⟩
theorem rwX7_isContradiction : rowsOK mX7_isContradiction := rowsOK_of (by decide +kernel)
theorem okX7_isContradiction : MOK mX7_isContradiction := ⟨rwX7_isContradiction, wm 63 (by decide +kernel) rfl, ⟨wm 1306 (by decide +kernel) rfl, wm 1307 (by decide +kernel) rfl⟩, ⟨by decide +kernel, by decide +kernel, by decide +kernel⟩, by decide +kernel, rfl, by decide, by decide⟩
theorem ocX7_isContradiction : MOKc mX7_isContradiction := ⟨okX7_isContradiction, rfl, wm 1308 (by decide +kernel) rfl⟩
theorem rwX7_fixedAt : rowsOK mX7_fixedAt := rowsOK_of (by decide +kernel)
theorem okX7_fixedAt : MOK mX7_fixedAt := ⟨rwX7_fixedAt, wm 63 (by decide +kernel) rfl, ⟨wm 1310 (by decide +kernel) rfl, wm 1311 (by decide +kernel) rfl⟩, ⟨by decide +kernel, by decide +kernel, by decide +kernel⟩, by decide +kernel, rfl, by decide, by decide⟩
theorem ocX7_fixedAt : MOKc mX7_fixedAt := ⟨okX7_fixedAt, rfl, wm 1312 (by decide +kernel) rfl⟩
theorem rwX7_fixed : rowsOK mX7_fixed := rowsOK_of (by decide +kernel)
theorem okX7_fixed : MOK mX7_fixed := ⟨rwX7_fixed, wm 63 (by decide +kernel) rfl, ⟨wm 1315 (by decide +kernel) rfl, wm 44 (by decide +kernel) rfl⟩, ⟨by decide +kernel, by decide +kernel, by decide +kernel⟩, by decide +kernel, rfl, by decide, by decide⟩
theorem ocX7_fixed : MOKc mX7_fixed := ⟨okX7_fixed, rfl, wm 1316 (by decide +kernel) rfl⟩
theorem rwX7_fixedItems : rowsOK mX7_fixedItems := rowsOK_of (by decide +kernel)
theorem okX7_fixedItems : MOK mX7_fixedItems := ⟨rwX7_fixedItems, wm 63 (by decide +kernel) rfl, ⟨wm 1318 (by decide +kernel) rfl, wm 1319 (by decide +kernel) rfl⟩, ⟨by decide +kernel, by decide +kernel, by decide +kernel⟩, by decide +kernel, rfl, by decide, by decide⟩
theorem ocX7_fixedItems : MOKc mX7_fixedItems := ⟨okX7_fixedItems, rfl, wm 1320 (by decide +kernel) rfl⟩
theorem rwX7_allFixed : rowsOK mX7_allFixed := rowsOK_of (by decide +kernel)
theorem okX7_allFixed : MOK mX7_allFixed := ⟨rwX7_allFixed, wm 63 (by decide +kernel) rfl, ⟨wm 1323 (by decide +kernel) rfl, wm 45 (by decide +kernel) rfl⟩, ⟨by decide +kernel, by decide +kernel, by decide +kernel⟩, by decide +kernel, rfl, by decide, by decide⟩
theorem ocX7_allFixed : MOKc mX7_allFixed := ⟨okX7_allFixed, rfl, wm 1324 (by decide +kernel) rfl⟩
theorem rwX7_hint : rowsOK mX7_hint := rowsOK_of (by decide +kernel)
theorem okX7_hint : MOK mX7_hint := ⟨rwX7_hint, wm 63 (by decide +kernel) rfl, ⟨wm 1326 (by decide +kernel) rfl, wm 1327 (by decide +kernel) rfl⟩, ⟨by decide +kernel, by decide +kernel, by decide +kernel⟩, by decide +kernel, rfl, by decide, by decide⟩
theorem ocX7_hint : MOKc mX7_hint := ⟨okX7_hint, rfl, wm 1328 (by decide +kernel) rfl⟩
theorem rwX7_hinted : rowsOK mX7_hinted := rowsOK_of (by decide +kernel)
theorem okX7_hinted : MOK mX7_hinted := ⟨rwX7_hinted, wm 63 (by decide +kernel) rfl, ⟨wm 1331 (by decide +kernel) rfl, wm 46 (by decide +kernel) rfl⟩, ⟨by decide +kernel, by decide +kernel, by decide +kernel⟩, by decide +kernel, rfl, by decide, by decide⟩
theorem ocX7_hinted : MOKc mX7_hinted := ⟨okX7_hinted, rfl, wm 1332 (by decide +kernel) rfl⟩
theorem rwX7_hintBy : rowsOK mX7_hintBy := rowsOK_of (by decide +kernel)
theorem okX7_hintBy : MOK mX7_hintBy := ⟨rwX7_hintBy, wm 63 (by decide +kernel) rfl, ⟨wm 1334 (by decide +kernel) rfl, wm 1335 (by decide +kernel) rfl⟩, ⟨by decide +kernel, by decide +kernel, by decide +kernel⟩, by decide +kernel, rfl, by decide, by decide⟩
theorem ocX7_hintBy : MOKc mX7_hintBy := ⟨okX7_hintBy, rfl, wm 1336 (by decide +kernel) rfl⟩
theorem rwX7_solutions : rowsOK mX7_solutions := rowsOK_of (by decide +kernel)
theorem okX7_solutions : MOK mX7_solutions := ⟨rwX7_solutions, wm 63 (by decide +kernel) rfl, ⟨wm 1338 (by decide +kernel) rfl, wm 1339 (by decide +kernel) rfl⟩, ⟨by decide +kernel, by decide +kernel, by decide +kernel⟩, by decide +kernel, rfl, by decide, by decide⟩
theorem ocX7_solutions : MOKc mX7_solutions := ⟨okX7_solutions, rfl, wm 1340 (by decide +kernel) rfl⟩
theorem rwX7_surveys : rowsOK mX7_surveys := rowsOK_of (by decide +kernel)
theorem okX7_surveys : MOK mX7_surveys := ⟨rwX7_surveys, wm 63 (by decide +kernel) rfl, ⟨wm 1343 (by decide +kernel) rfl, wm 47 (by decide +kernel) rfl⟩, ⟨by decide +kernel, by decide +kernel, by decide +kernel⟩, by decide +kernel, rfl, by decide, by decide⟩
theorem ocX7_surveys : MOKc mX7_surveys := ⟨okX7_surveys, rfl, wm 1344 (by decide +kernel) rfl⟩
theorem rwX7_stands : rowsOK mX7_stands := rowsOK_of (by decide +kernel)
theorem okX7_stands : MOK mX7_stands := ⟨rwX7_stands, wm 63 (by decide +kernel) rfl, ⟨wm 1347 (by decide +kernel) rfl, wm 48 (by decide +kernel) rfl⟩, ⟨by decide +kernel, by decide +kernel, by decide +kernel⟩, by decide +kernel, rfl, by decide, by decide⟩
theorem ocX7_stands : MOKc mX7_stands := ⟨okX7_stands, rfl, wm 1348 (by decide +kernel) rfl⟩
theorem rwX7_isHeld : rowsOK mX7_isHeld := rowsOK_of (by decide +kernel)
theorem okX7_isHeld : MOK mX7_isHeld := ⟨rwX7_isHeld, wm 63 (by decide +kernel) rfl, ⟨wm 1351 (by decide +kernel) rfl, wm 49 (by decide +kernel) rfl⟩, ⟨by decide +kernel, by decide +kernel, by decide +kernel⟩, by decide +kernel, rfl, by decide, by decide⟩
theorem ocX7_isHeld : MOKc mX7_isHeld := ⟨okX7_isHeld, rfl, wm 1352 (by decide +kernel) rfl⟩
theorem rwX7_isClear : rowsOK mX7_isClear := rowsOK_of (by decide +kernel)
theorem okX7_isClear : MOK mX7_isClear := ⟨rwX7_isClear, wm 63 (by decide +kernel) rfl, ⟨wm 1355 (by decide +kernel) rfl, wm 50 (by decide +kernel) rfl⟩, ⟨by decide +kernel, by decide +kernel, by decide +kernel⟩, by decide +kernel, rfl, by decide, by decide⟩
theorem ocX7_isClear : MOKc mX7_isClear := ⟨okX7_isClear, rfl, wm 1356 (by decide +kernel) rfl⟩
theorem rwX7_solutionsBySearch : rowsOK mX7_solutionsBySearch := rowsOK_of (by decide +kernel)
theorem okX7_solutionsBySearch : MOK mX7_solutionsBySearch := ⟨rwX7_solutionsBySearch, wm 63 (by decide +kernel) rfl, ⟨wm 1358 (by decide +kernel) rfl, wm 1359 (by decide +kernel) rfl⟩, ⟨by decide +kernel, by decide +kernel, by decide +kernel⟩, by decide +kernel, rfl, by decide, by decide⟩
theorem ocX7_solutionsBySearch : MOKc mX7_solutionsBySearch := ⟨okX7_solutionsBySearch, rfl, wm 1360 (by decide +kernel) rfl⟩
theorem rwX7_placeIn : rowsOK mX7_placeIn := rowsOK_of (by decide +kernel)
theorem okX7_placeIn : MOK mX7_placeIn := ⟨rwX7_placeIn, wm 63 (by decide +kernel) rfl, ⟨wm 1362 (by decide +kernel) rfl, wm 1363 (by decide +kernel) rfl⟩, ⟨by decide +kernel, by decide +kernel, by decide +kernel⟩, by decide +kernel, rfl, by decide, by decide⟩
theorem ocX7_placeIn : MOKc mX7_placeIn := ⟨okX7_placeIn, rfl, wm 1364 (by decide +kernel) rfl⟩
theorem rwX7_finds : rowsOK mX7_finds := rowsOK_of (by decide +kernel)
theorem okX7_finds : MOK mX7_finds := ⟨rwX7_finds, wm 63 (by decide +kernel) rfl, ⟨wm 1367 (by decide +kernel) rfl, wm 51 (by decide +kernel) rfl⟩, ⟨by decide +kernel, by decide +kernel, by decide +kernel⟩, by decide +kernel, rfl, by decide, by decide⟩
theorem ocX7_finds : MOKc mX7_finds := ⟨okX7_finds, rfl, wm 1368 (by decide +kernel) rfl⟩
theorem rwX7_trulyLeft : rowsOK mX7_trulyLeft := rowsOK_of (by decide +kernel)
theorem okX7_trulyLeft : MOK mX7_trulyLeft := ⟨rwX7_trulyLeft, wm 63 (by decide +kernel) rfl, ⟨wm 1370 (by decide +kernel) rfl, wm 1371 (by decide +kernel) rfl⟩, ⟨by decide +kernel, by decide +kernel, by decide +kernel⟩, by decide +kernel, rfl, by decide, by decide⟩
theorem ocX7_trulyLeft : MOKc mX7_trulyLeft := ⟨okX7_trulyLeft, rfl, wm 1372 (by decide +kernel) rfl⟩
theorem rwX7_isSpare : rowsOK mX7_isSpare := rowsOK_of (by decide +kernel)
theorem okX7_isSpare : MOK mX7_isSpare := ⟨rwX7_isSpare, wm 63 (by decide +kernel) rfl, ⟨wm 1374 (by decide +kernel) rfl, wm 1375 (by decide +kernel) rfl⟩, ⟨by decide +kernel, by decide +kernel, by decide +kernel⟩, by decide +kernel, rfl, by decide, by decide⟩
theorem ocX7_isSpare : MOKc mX7_isSpare := ⟨okX7_isSpare, rfl, wm 1376 (by decide +kernel) rfl⟩
theorem rwX7_culprit : rowsOK mX7_culprit := rowsOK_of (by decide +kernel)
theorem okX7_culprit : MOK mX7_culprit := ⟨rwX7_culprit, wm 63 (by decide +kernel) rfl, ⟨wm 1378 (by decide +kernel) rfl, wm 1379 (by decide +kernel) rfl⟩, ⟨by decide +kernel, by decide +kernel, by decide +kernel⟩, by decide +kernel, rfl, by decide, by decide⟩
theorem ocX7_culprit : MOKc mX7_culprit := ⟨okX7_culprit, rfl, wm 1380 (by decide +kernel) rfl⟩
theorem rwX7_blamed : rowsOK mX7_blamed := rowsOK_of (by decide +kernel)
theorem okX7_blamed : MOK mX7_blamed := ⟨rwX7_blamed, wm 63 (by decide +kernel) rfl, ⟨wm 1383 (by decide +kernel) rfl, wm 52 (by decide +kernel) rfl⟩, ⟨by decide +kernel, by decide +kernel, by decide +kernel⟩, by decide +kernel, rfl, by decide, by decide⟩
theorem ocX7_blamed : MOKc mX7_blamed := ⟨okX7_blamed, rfl, wm 1384 (by decide +kernel) rfl⟩
theorem rwX7_barredBy : rowsOK mX7_barredBy := rowsOK_of (by decide +kernel)
theorem okX7_barredBy : MOK mX7_barredBy := ⟨rwX7_barredBy, wm 63 (by decide +kernel) rfl, ⟨wm 1386 (by decide +kernel) rfl, wm 1387 (by decide +kernel) rfl⟩, ⟨by decide +kernel, by decide +kernel, by decide +kernel⟩, by decide +kernel, rfl, by decide, by decide⟩
theorem ocX7_barredBy : MOKc mX7_barredBy := ⟨okX7_barredBy, rfl, wm 1388 (by decide +kernel) rfl⟩
theorem rwX7_isPlain : rowsOK mX7_isPlain := rowsOK_of (by decide +kernel)
theorem okX7_isPlain : MOK mX7_isPlain := ⟨rwX7_isPlain, wm 63 (by decide +kernel) rfl, ⟨wm 1390 (by decide +kernel) rfl, wm 1391 (by decide +kernel) rfl⟩, ⟨by decide +kernel, by decide +kernel, by decide +kernel⟩, by decide +kernel, rfl, by decide, by decide⟩
theorem ocX7_isPlain : MOKc mX7_isPlain := ⟨okX7_isPlain, rfl, wm 1392 (by decide +kernel) rfl⟩
theorem rwX7_plain : rowsOK mX7_plain := rowsOK_of (by decide +kernel)
theorem okX7_plain : MOK mX7_plain := ⟨rwX7_plain, wm 63 (by decide +kernel) rfl, ⟨wm 1395 (by decide +kernel) rfl, wm 53 (by decide +kernel) rfl⟩, ⟨by decide +kernel, by decide +kernel, by decide +kernel⟩, by decide +kernel, rfl, by decide, by decide⟩
theorem ocX7_plain : MOKc mX7_plain := ⟨okX7_plain, rfl, wm 1396 (by decide +kernel) rfl⟩
theorem rwX7_fixedShare : rowsOK mX7_fixedShare := rowsOK_of (by decide +kernel)
theorem okX7_fixedShare : MOK mX7_fixedShare := ⟨rwX7_fixedShare, wm 63 (by decide +kernel) rfl, ⟨wm 1398 (by decide +kernel) rfl, wm 1399 (by decide +kernel) rfl⟩, ⟨by decide +kernel, by decide +kernel, by decide +kernel⟩, by decide +kernel, rfl, by decide, by decide⟩
theorem ocX7_fixedShare : MOKc mX7_fixedShare := ⟨okX7_fixedShare, rfl, wm 1400 (by decide +kernel) rfl⟩
theorem rwX7_share : rowsOK mX7_share := rowsOK_of (by decide +kernel)
theorem okX7_share : MOK mX7_share := ⟨rwX7_share, wm 63 (by decide +kernel) rfl, ⟨wm 1403 (by decide +kernel) rfl, wm 54 (by decide +kernel) rfl⟩, ⟨by decide +kernel, by decide +kernel, by decide +kernel⟩, by decide +kernel, rfl, by decide, by decide⟩
theorem ocX7_share : MOKc mX7_share := ⟨okX7_share, rfl, wm 1404 (by decide +kernel) rfl⟩
theorem rwX7_meanLeft : rowsOK mX7_meanLeft := rowsOK_of (by decide +kernel)
theorem okX7_meanLeft : MOK mX7_meanLeft := ⟨rwX7_meanLeft, wm 63 (by decide +kernel) rfl, ⟨wm 1407 (by decide +kernel) rfl, wm 1408 (by decide +kernel) rfl⟩, ⟨by decide +kernel, by decide +kernel, by decide +kernel⟩, by decide +kernel, rfl, by decide, by decide⟩
theorem ocX7_meanLeft : MOKc mX7_meanLeft := ⟨okX7_meanLeft, rfl, wm 1409 (by decide +kernel) rfl⟩
theorem rwX7_mean : rowsOK mX7_mean := rowsOK_of (by decide +kernel)
theorem okX7_mean : MOK mX7_mean := ⟨rwX7_mean, wm 63 (by decide +kernel) rfl, ⟨wm 1412 (by decide +kernel) rfl, wm 55 (by decide +kernel) rfl⟩, ⟨by decide +kernel, by decide +kernel, by decide +kernel⟩, by decide +kernel, rfl, by decide, by decide⟩
theorem ocX7_mean : MOKc mX7_mean := ⟨okX7_mean, rfl, wm 1413 (by decide +kernel) rfl⟩
theorem rkX7_digest_0 : chunkB cX7_digest tX7_digest_0 = true := by decide +kernel
theorem rkX7_digest_1 : chunkB cX7_digest tX7_digest_1 = true := by decide +kernel
theorem rkX7_digest_2 : chunkB cX7_digest tX7_digest_2 = true := by decide +kernel
theorem rkX7_digest_3 : chunkB cX7_digest tX7_digest_3 = true := by decide +kernel
theorem rkX7_digest_4 : chunkB cX7_digest tX7_digest_4 = true := by decide +kernel
theorem rkX7_digest_5 : chunkB cX7_digest tX7_digest_5 = true := by decide +kernel
theorem rkX7_digest_6 : chunkB cX7_digest tX7_digest_6 = true := by decide +kernel
theorem rkX7_digest_7 : chunkB cX7_digest tX7_digest_7 = true := by decide +kernel
theorem rkX7_digest_8 : chunkB cX7_digest tX7_digest_8 = true := by decide +kernel
theorem rkX7_digest_9 : chunkB cX7_digest tX7_digest_9 = true := by decide +kernel
theorem rkX7_digest_10 : chunkB cX7_digest tX7_digest_10 = true := by decide +kernel
theorem rkX7_digest_11 : chunkB cX7_digest tX7_digest_11 = true := by decide +kernel
theorem rkX7_digest_12 : chunkB cX7_digest tX7_digest_12 = true := by decide +kernel
theorem rkX7_digest_13 : chunkB cX7_digest tX7_digest_13 = true := by decide +kernel
theorem rkX7_digest_14 : chunkB cX7_digest tX7_digest_14 = true := by decide +kernel
theorem rkX7_digest_15 : chunkB cX7_digest tX7_digest_15 = true := by decide +kernel
theorem rkX7_digest_16 : chunkB cX7_digest tX7_digest_16 = true := by decide +kernel
theorem rkX7_digest_17 : chunkB cX7_digest tX7_digest_17 = true := by decide +kernel
theorem rwX7_digest : rowsOK mX7_digest := rowsOK_of (List.forall_mem_cons.mpr ⟨rkX7_digest_0, List.forall_mem_cons.mpr ⟨rkX7_digest_1, List.forall_mem_cons.mpr ⟨rkX7_digest_2, List.forall_mem_cons.mpr ⟨rkX7_digest_3, List.forall_mem_cons.mpr ⟨rkX7_digest_4, List.forall_mem_cons.mpr ⟨rkX7_digest_5, List.forall_mem_cons.mpr ⟨rkX7_digest_6, List.forall_mem_cons.mpr ⟨rkX7_digest_7, List.forall_mem_cons.mpr ⟨rkX7_digest_8, List.forall_mem_cons.mpr ⟨rkX7_digest_9, List.forall_mem_cons.mpr ⟨rkX7_digest_10, List.forall_mem_cons.mpr ⟨rkX7_digest_11, List.forall_mem_cons.mpr ⟨rkX7_digest_12, List.forall_mem_cons.mpr ⟨rkX7_digest_13, List.forall_mem_cons.mpr ⟨rkX7_digest_14, List.forall_mem_cons.mpr ⟨rkX7_digest_15, List.forall_mem_cons.mpr ⟨rkX7_digest_16, List.forall_mem_cons.mpr ⟨rkX7_digest_17, fun _ h => absurd h List.not_mem_nil⟩⟩⟩⟩⟩⟩⟩⟩⟩⟩⟩⟩⟩⟩⟩⟩⟩⟩)
theorem okX7_digest : MOK mX7_digest := ⟨rwX7_digest, wm 63 (by decide +kernel) rfl, ⟨wm 1416 (by decide +kernel) rfl, wm 1417 (by decide +kernel) rfl⟩, ⟨by decide +kernel, by decide +kernel, by decide +kernel⟩, by decide +kernel, rfl, by decide, by decide⟩
theorem ocX7_digest : MOKc mX7_digest := ⟨okX7_digest, rfl, wm 1418 (by decide +kernel) rfl⟩
theorem rwX7_mix : rowsOK mX7_mix := rowsOK_of (by decide +kernel)
theorem okX7_mix : MOK mX7_mix := ⟨rwX7_mix, wm 63 (by decide +kernel) rfl, ⟨wm 1422 (by decide +kernel) rfl, wm 56 (by decide +kernel) rfl⟩, ⟨by decide +kernel, by decide +kernel, by decide +kernel⟩, by decide +kernel, rfl, by decide, by decide⟩
theorem ocX7_mix : MOKc mX7_mix := ⟨okX7_mix, rfl, wm 1423 (by decide +kernel) rfl⟩
theorem rwX7_told : rowsOK mX7_told := rowsOK_of (by decide +kernel)
theorem okX7_told : MOK mX7_told := ⟨rwX7_told, wm 63 (by decide +kernel) rfl, wm 1426 (by decide +kernel) rfl, ⟨by decide +kernel, by decide +kernel, by decide +kernel⟩, by decide +kernel, rfl, by decide, by decide⟩
theorem ocX7_told : MOKc mX7_told := ⟨okX7_told, rfl, wm 1427 (by decide +kernel) rfl⟩
theorem rwX7_bitsOf : rowsOK mX7_bitsOf := rowsOK_of (by decide +kernel)
theorem okX7_bitsOf : MOK mX7_bitsOf := ⟨rwX7_bitsOf, wm 63 (by decide +kernel) rfl, wm 1430 (by decide +kernel) rfl, ⟨by decide +kernel, by decide +kernel, by decide +kernel⟩, by decide +kernel, rfl, by decide, by decide⟩
theorem ocX7_bitsOf : MOKc mX7_bitsOf := ⟨okX7_bitsOf, rfl, wm 1431 (by decide +kernel) rfl⟩
theorem rwL_same : rowsOK mL_same := rowsOK_of (by decide +kernel)
theorem okL_same : MOK mL_same := ⟨rwL_same, wm 57 (by decide +kernel) rfl, wm 730 (by decide +kernel) rfl, ⟨by decide +kernel, by decide +kernel, by decide +kernel⟩, by decide +kernel, rfl, by decide, by decide⟩
theorem rwL_apart : rowsOK mL_apart := rowsOK_of (by decide +kernel)
theorem okL_apart : MOK mL_apart := ⟨rwL_apart, wm 57 (by decide +kernel) rfl, wm 790 (by decide +kernel) rfl, ⟨by decide +kernel, by decide +kernel, by decide +kernel⟩, by decide +kernel, rfl, by decide, by decide⟩
theorem rwL_leftOf : rowsOK mL_leftOf := rowsOK_of (by decide +kernel)
theorem okL_leftOf : MOK mL_leftOf := ⟨rwL_leftOf, wm 57 (by decide +kernel) rfl, wm 797 (by decide +kernel) rfl, ⟨by decide +kernel, by decide +kernel, by decide +kernel⟩, by decide +kernel, rfl, by decide, by decide⟩
theorem rwL_nextTo : rowsOK mL_nextTo := rowsOK_of (by decide +kernel)
theorem okL_nextTo : MOK mL_nextTo := ⟨rwL_nextTo, wm 57 (by decide +kernel) rfl, wm 804 (by decide +kernel) rfl, ⟨by decide +kernel, by decide +kernel, by decide +kernel⟩, by decide +kernel, rfl, by decide, by decide⟩
theorem rwL_at : rowsOK mL_at := rowsOK_of (by decide +kernel)
theorem okL_at : MOK mL_at := ⟨rwL_at, wm 57 (by decide +kernel) rfl, wm 811 (by decide +kernel) rfl, ⟨by decide +kernel, by decide +kernel, by decide +kernel⟩, by decide +kernel, rfl, by decide, by decide⟩
theorem rwL_notAt : rowsOK mL_notAt := rowsOK_of (by decide +kernel)
theorem okL_notAt : MOK mL_notAt := ⟨rwL_notAt, wm 57 (by decide +kernel) rfl, wm 822 (by decide +kernel) rfl, ⟨by decide +kernel, by decide +kernel, by decide +kernel⟩, by decide +kernel, rfl, by decide, by decide⟩
theorem rwL_either : rowsOK mL_either := rowsOK_of (by decide +kernel)
theorem okL_either : MOK mL_either := ⟨rwL_either, wm 57 (by decide +kernel) rfl, wm 829 (by decide +kernel) rfl, ⟨by decide +kernel, by decide +kernel, by decide +kernel⟩, by decide +kernel, rfl, by decide, by decide⟩
theorem rwL_withdraw : rowsOK mL_withdraw := rowsOK_of (by decide +kernel)
theorem okL_withdraw : MOK mL_withdraw := ⟨rwL_withdraw, wm 57 (by decide +kernel) rfl, wm 836 (by decide +kernel) rfl, ⟨by decide +kernel, by decide +kernel, by decide +kernel⟩, by decide +kernel, rfl, by decide, by decide⟩
theorem rwL_cross : rowsOK mL_cross := rowsOK_of (by decide +kernel)
theorem okL_cross : MOK mL_cross := ⟨rwL_cross, wm 57 (by decide +kernel) rfl, wm 847 (by decide +kernel) rfl, ⟨by decide +kernel, by decide +kernel, by decide +kernel⟩, by decide +kernel, rfl, by decide, by decide⟩
theorem rwL_rubOut : rowsOK mL_rubOut := rowsOK_of (by decide +kernel)
theorem okL_rubOut : MOK mL_rubOut := ⟨rwL_rubOut, wm 57 (by decide +kernel) rfl, wm 860 (by decide +kernel) rfl, ⟨by decide +kernel, by decide +kernel, by decide +kernel⟩, by decide +kernel, rfl, by decide, by decide⟩
theorem rwL_settle : rowsOK mL_settle := rowsOK_of (by decide +kernel)
theorem okL_settle : MOK mL_settle := ⟨rwL_settle, wm 57 (by decide +kernel) rfl, wm 868 (by decide +kernel) rfl, ⟨by decide +kernel, by decide +kernel, by decide +kernel⟩, by decide +kernel, rfl, by decide, by decide⟩
theorem rwL_append : rowsOK mL_append := rowsOK_of (by decide +kernel)
theorem okL_append : MOK mL_append := ⟨rwL_append, wm 57 (by decide +kernel) rfl, wm 877 (by decide +kernel) rfl, ⟨by decide +kernel, by decide +kernel, by decide +kernel⟩, by decide +kernel, rfl, by decide, by decide⟩
theorem rwL_take : rowsOK mL_take := rowsOK_of (by decide +kernel)
theorem okL_take : MOK mL_take := ⟨rwL_take, wm 57 (by decide +kernel) rfl, wm 886 (by decide +kernel) rfl, ⟨by decide +kernel, by decide +kernel, by decide +kernel⟩, by decide +kernel, rfl, by decide, by decide⟩
theorem rwL_goBack : rowsOK mL_goBack := rowsOK_of (by decide +kernel)
theorem okL_goBack : MOK mL_goBack := ⟨rwL_goBack, wm 57 (by decide +kernel) rfl, wm 918 (by decide +kernel) rfl, ⟨by decide +kernel, by decide +kernel, by decide +kernel⟩, by decide +kernel, rfl, by decide, by decide⟩
theorem rwL_undo : rowsOK mL_undo := rowsOK_of (by decide +kernel)
theorem okL_undo : MOK mL_undo := ⟨rwL_undo, wm 57 (by decide +kernel) rfl, wm 926 (by decide +kernel) rfl, ⟨by decide +kernel, by decide +kernel, by decide +kernel⟩, by decide +kernel, rfl, by decide, by decide⟩
theorem rwL_sortOf : rowsOK mL_sortOf := rowsOK_of (by decide +kernel)
theorem okL_sortOf : MOK mL_sortOf := ⟨rwL_sortOf, wm 57 (by decide +kernel) rfl, wm 934 (by decide +kernel) rfl, ⟨by decide +kernel, by decide +kernel, by decide +kernel⟩, by decide +kernel, rfl, by decide, by decide⟩
theorem rwL_itemOf : rowsOK mL_itemOf := rowsOK_of (by decide +kernel)
theorem okL_itemOf : MOK mL_itemOf := ⟨rwL_itemOf, wm 57 (by decide +kernel) rfl, wm 938 (by decide +kernel) rfl, ⟨by decide +kernel, by decide +kernel, by decide +kernel⟩, by decide +kernel, rfl, by decide, by decide⟩
theorem rwL_placeOf : rowsOK mL_placeOf := rowsOK_of (by decide +kernel)
theorem okL_placeOf : MOK mL_placeOf := ⟨rwL_placeOf, wm 57 (by decide +kernel) rfl, wm 942 (by decide +kernel) rfl, ⟨by decide +kernel, by decide +kernel, by decide +kernel⟩, by decide +kernel, rfl, by decide, by decide⟩
theorem rwL_isCrossed : rowsOK mL_isCrossed := rowsOK_of (by decide +kernel)
theorem okL_isCrossed : MOK mL_isCrossed := ⟨rwL_isCrossed, wm 57 (by decide +kernel) rfl, wm 946 (by decide +kernel) rfl, ⟨by decide +kernel, by decide +kernel, by decide +kernel⟩, by decide +kernel, rfl, by decide, by decide⟩
theorem rwL_left : rowsOK mL_left := rowsOK_of (by decide +kernel)
theorem okL_left : MOK mL_left := ⟨rwL_left, wm 57 (by decide +kernel) rfl, wm 950 (by decide +kernel) rfl, ⟨by decide +kernel, by decide +kernel, by decide +kernel⟩, by decide +kernel, rfl, by decide, by decide⟩
theorem rwL_leftByTurns : rowsOK mL_leftByTurns := rowsOK_of (by decide +kernel)
theorem okL_leftByTurns : MOK mL_leftByTurns := ⟨rwL_leftByTurns, wm 57 (by decide +kernel) rfl, wm 957 (by decide +kernel) rfl, ⟨by decide +kernel, by decide +kernel, by decide +kernel⟩, by decide +kernel, rfl, by decide, by decide⟩
theorem rwL_fixedAt : rowsOK mL_fixedAt := rowsOK_of (by decide +kernel)
theorem okL_fixedAt : MOK mL_fixedAt := ⟨rwL_fixedAt, wm 57 (by decide +kernel) rfl, wm 964 (by decide +kernel) rfl, ⟨by decide +kernel, by decide +kernel, by decide +kernel⟩, by decide +kernel, rfl, by decide, by decide⟩
theorem rwL_placeIn : rowsOK mL_placeIn := rowsOK_of (by decide +kernel)
theorem okL_placeIn : MOK mL_placeIn := ⟨rwL_placeIn, wm 57 (by decide +kernel) rfl, wm 971 (by decide +kernel) rfl, ⟨by decide +kernel, by decide +kernel, by decide +kernel⟩, by decide +kernel, rfl, by decide, by decide⟩
theorem rwL_trulyLeft : rowsOK mL_trulyLeft := rowsOK_of (by decide +kernel)
theorem okL_trulyLeft : MOK mL_trulyLeft := ⟨rwL_trulyLeft, wm 57 (by decide +kernel) rfl, wm 979 (by decide +kernel) rfl, ⟨by decide +kernel, by decide +kernel, by decide +kernel⟩, by decide +kernel, rfl, by decide, by decide⟩
theorem rwL_isSpare : rowsOK mL_isSpare := rowsOK_of (by decide +kernel)
theorem okL_isSpare : MOK mL_isSpare := ⟨rwL_isSpare, wm 57 (by decide +kernel) rfl, wm 986 (by decide +kernel) rfl, ⟨by decide +kernel, by decide +kernel, by decide +kernel⟩, by decide +kernel, rfl, by decide, by decide⟩
theorem rwL_barredBy : rowsOK mL_barredBy := rowsOK_of (by decide +kernel)
theorem okL_barredBy : MOK mL_barredBy := ⟨rwL_barredBy, wm 57 (by decide +kernel) rfl, wm 990 (by decide +kernel) rfl, ⟨by decide +kernel, by decide +kernel, by decide +kernel⟩, by decide +kernel, rfl, by decide, by decide⟩
theorem rkL_law_0 : chunkB code tL_law_0 = true := by decide +kernel
theorem rkL_law_1 : chunkB code tL_law_1 = true := by decide +kernel
theorem rkL_law_2 : chunkB code tL_law_2 = true := by decide +kernel
theorem rkL_law_3 : chunkB code tL_law_3 = true := by decide +kernel
theorem rkL_law_4 : chunkB code tL_law_4 = true := by decide +kernel
theorem rkL_law_5 : chunkB code tL_law_5 = true := by decide +kernel
theorem rkL_law_6 : chunkB code tL_law_6 = true := by decide +kernel
theorem rkL_law_7 : chunkB code tL_law_7 = true := by decide +kernel
theorem rkL_law_8 : chunkB code tL_law_8 = true := by decide +kernel
theorem rkL_law_9 : chunkB code tL_law_9 = true := by decide +kernel
theorem rkL_law_10 : chunkB code tL_law_10 = true := by decide +kernel
theorem rkL_law_11 : chunkB code tL_law_11 = true := by decide +kernel
theorem rkL_law_12 : chunkB code tL_law_12 = true := by decide +kernel
theorem rkL_law_13 : chunkB code tL_law_13 = true := by decide +kernel
theorem rkL_law_14 : chunkB code tL_law_14 = true := by decide +kernel
theorem rkL_law_15 : chunkB code tL_law_15 = true := by decide +kernel
theorem rkL_law_16 : chunkB code tL_law_16 = true := by decide +kernel
theorem rkL_law_17 : chunkB code tL_law_17 = true := by decide +kernel
theorem rkL_law_18 : chunkB code tL_law_18 = true := by decide +kernel
theorem rkL_law_19 : chunkB code tL_law_19 = true := by decide +kernel
theorem rkL_law_20 : chunkB code tL_law_20 = true := by decide +kernel
theorem rkL_law_21 : chunkB code tL_law_21 = true := by decide +kernel
theorem rkL_law_22 : chunkB code tL_law_22 = true := by decide +kernel
theorem rkL_law_23 : chunkB code tL_law_23 = true := by decide +kernel
theorem rkL_law_24 : chunkB code tL_law_24 = true := by decide +kernel
theorem rkL_law_25 : chunkB code tL_law_25 = true := by decide +kernel
theorem rkL_law_26 : chunkB code tL_law_26 = true := by decide +kernel
theorem rkL_law_27 : chunkB code tL_law_27 = true := by decide +kernel
theorem rkL_law_28 : chunkB code tL_law_28 = true := by decide +kernel
theorem rkL_law_29 : chunkB code tL_law_29 = true := by decide +kernel
theorem rkL_law_30 : chunkB code tL_law_30 = true := by decide +kernel
theorem rkL_law_31 : chunkB code tL_law_31 = true := by decide +kernel
theorem rkL_law_32 : chunkB code tL_law_32 = true := by decide +kernel
theorem rkL_law_33 : chunkB code tL_law_33 = true := by decide +kernel
theorem rkL_law_34 : chunkB code tL_law_34 = true := by decide +kernel
theorem rkL_law_35 : chunkB code tL_law_35 = true := by decide +kernel
theorem rkL_law_36 : chunkB code tL_law_36 = true := by decide +kernel
theorem rkL_law_37 : chunkB code tL_law_37 = true := by decide +kernel
theorem rkL_law_38 : chunkB code tL_law_38 = true := by decide +kernel
theorem rkL_law_39 : chunkB code tL_law_39 = true := by decide +kernel
theorem rkL_law_40 : chunkB code tL_law_40 = true := by decide +kernel
theorem rkL_law_41 : chunkB code tL_law_41 = true := by decide +kernel
theorem rkL_law_42 : chunkB code tL_law_42 = true := by decide +kernel
theorem rkL_law_43 : chunkB code tL_law_43 = true := by decide +kernel
theorem rkL_law_44 : chunkB code tL_law_44 = true := by decide +kernel
theorem rkL_law_45 : chunkB code tL_law_45 = true := by decide +kernel
theorem rkL_law_46 : chunkB code tL_law_46 = true := by decide +kernel
theorem rkL_law_47 : chunkB code tL_law_47 = true := by decide +kernel
theorem rkL_law_48 : chunkB code tL_law_48 = true := by decide +kernel
theorem rkL_law_49 : chunkB code tL_law_49 = true := by decide +kernel
theorem rkL_law_50 : chunkB code tL_law_50 = true := by decide +kernel
theorem rkL_law_51 : chunkB code tL_law_51 = true := by decide +kernel
theorem rkL_law_52 : chunkB code tL_law_52 = true := by decide +kernel
theorem rkL_law_53 : chunkB code tL_law_53 = true := by decide +kernel
theorem rkL_law_54 : chunkB code tL_law_54 = true := by decide +kernel
theorem rkL_law_55 : chunkB code tL_law_55 = true := by decide +kernel
theorem rkL_law_56 : chunkB code tL_law_56 = true := by decide +kernel
theorem rkL_law_57 : chunkB code tL_law_57 = true := by decide +kernel
theorem rkL_law_58 : chunkB code tL_law_58 = true := by decide +kernel
theorem rkL_law_59 : chunkB code tL_law_59 = true := by decide +kernel
theorem rkL_law_60 : chunkB code tL_law_60 = true := by decide +kernel
theorem rkL_law_61 : chunkB code tL_law_61 = true := by decide +kernel
theorem rkL_law_62 : chunkB code tL_law_62 = true := by decide +kernel
theorem rkL_law_63 : chunkB code tL_law_63 = true := by decide +kernel
theorem rkL_law_64 : chunkB code tL_law_64 = true := by decide +kernel
theorem rkL_law_65 : chunkB code tL_law_65 = true := by decide +kernel
theorem rkL_law_66 : chunkB code tL_law_66 = true := by decide +kernel
theorem rwL_law : rowsOK mL_law := rowsOK_of (List.forall_mem_cons.mpr ⟨rkL_law_0, List.forall_mem_cons.mpr ⟨rkL_law_1, List.forall_mem_cons.mpr ⟨rkL_law_2, List.forall_mem_cons.mpr ⟨rkL_law_3, List.forall_mem_cons.mpr ⟨rkL_law_4, List.forall_mem_cons.mpr ⟨rkL_law_5, List.forall_mem_cons.mpr ⟨rkL_law_6, List.forall_mem_cons.mpr ⟨rkL_law_7, List.forall_mem_cons.mpr ⟨rkL_law_8, List.forall_mem_cons.mpr ⟨rkL_law_9, List.forall_mem_cons.mpr ⟨rkL_law_10, List.forall_mem_cons.mpr ⟨rkL_law_11, List.forall_mem_cons.mpr ⟨rkL_law_12, List.forall_mem_cons.mpr ⟨rkL_law_13, List.forall_mem_cons.mpr ⟨rkL_law_14, List.forall_mem_cons.mpr ⟨rkL_law_15, List.forall_mem_cons.mpr ⟨rkL_law_16, List.forall_mem_cons.mpr ⟨rkL_law_17, List.forall_mem_cons.mpr ⟨rkL_law_18, List.forall_mem_cons.mpr ⟨rkL_law_19, List.forall_mem_cons.mpr ⟨rkL_law_20, List.forall_mem_cons.mpr ⟨rkL_law_21, List.forall_mem_cons.mpr ⟨rkL_law_22, List.forall_mem_cons.mpr ⟨rkL_law_23, List.forall_mem_cons.mpr ⟨rkL_law_24, List.forall_mem_cons.mpr ⟨rkL_law_25, List.forall_mem_cons.mpr ⟨rkL_law_26, List.forall_mem_cons.mpr ⟨rkL_law_27, List.forall_mem_cons.mpr ⟨rkL_law_28, List.forall_mem_cons.mpr ⟨rkL_law_29, List.forall_mem_cons.mpr ⟨rkL_law_30, List.forall_mem_cons.mpr ⟨rkL_law_31, List.forall_mem_cons.mpr ⟨rkL_law_32, List.forall_mem_cons.mpr ⟨rkL_law_33, List.forall_mem_cons.mpr ⟨rkL_law_34, List.forall_mem_cons.mpr ⟨rkL_law_35, List.forall_mem_cons.mpr ⟨rkL_law_36, List.forall_mem_cons.mpr ⟨rkL_law_37, List.forall_mem_cons.mpr ⟨rkL_law_38, List.forall_mem_cons.mpr ⟨rkL_law_39, List.forall_mem_cons.mpr ⟨rkL_law_40, List.forall_mem_cons.mpr ⟨rkL_law_41, List.forall_mem_cons.mpr ⟨rkL_law_42, List.forall_mem_cons.mpr ⟨rkL_law_43, List.forall_mem_cons.mpr ⟨rkL_law_44, List.forall_mem_cons.mpr ⟨rkL_law_45, List.forall_mem_cons.mpr ⟨rkL_law_46, List.forall_mem_cons.mpr ⟨rkL_law_47, List.forall_mem_cons.mpr ⟨rkL_law_48, List.forall_mem_cons.mpr ⟨rkL_law_49, List.forall_mem_cons.mpr ⟨rkL_law_50, List.forall_mem_cons.mpr ⟨rkL_law_51, List.forall_mem_cons.mpr ⟨rkL_law_52, List.forall_mem_cons.mpr ⟨rkL_law_53, List.forall_mem_cons.mpr ⟨rkL_law_54, List.forall_mem_cons.mpr ⟨rkL_law_55, List.forall_mem_cons.mpr ⟨rkL_law_56, List.forall_mem_cons.mpr ⟨rkL_law_57, List.forall_mem_cons.mpr ⟨rkL_law_58, List.forall_mem_cons.mpr ⟨rkL_law_59, List.forall_mem_cons.mpr ⟨rkL_law_60, List.forall_mem_cons.mpr ⟨rkL_law_61, List.forall_mem_cons.mpr ⟨rkL_law_62, List.forall_mem_cons.mpr ⟨rkL_law_63, List.forall_mem_cons.mpr ⟨rkL_law_64, List.forall_mem_cons.mpr ⟨rkL_law_65, List.forall_mem_cons.mpr ⟨rkL_law_66, fun _ h => absurd h List.not_mem_nil⟩⟩⟩⟩⟩⟩⟩⟩⟩⟩⟩⟩⟩⟩⟩⟩⟩⟩⟩⟩⟩⟩⟩⟩⟩⟩⟩⟩⟩⟩⟩⟩⟩⟩⟩⟩⟩⟩⟩⟩⟩⟩⟩⟩⟩⟩⟩⟩⟩⟩⟩⟩⟩⟩⟩⟩⟩⟩⟩⟩⟩⟩⟩⟩⟩⟩⟩)
theorem rwJ6_bitCount_0f7a4 : rowsOK mJ6_bitCount_0f7a4 := rowsOK_of (by decide +kernel)
theorem okJ6_bitCount_0f7a4 : MOK mJ6_bitCount_0f7a4 := ⟨rwJ6_bitCount_0f7a4, wm 74 (by decide +kernel) rfl, wm 376 (by decide +kernel) rfl, ⟨by decide +kernel, by decide +kernel, by decide +kernel⟩, by decide +kernel, rfl, by decide, by decide⟩
theorem ocJ6_bitCount_0f7a4 : MOKc mJ6_bitCount_0f7a4 := ⟨okJ6_bitCount_0f7a4, rfl, wm 377 (by decide +kernel) rfl⟩
theorem rwJ13_bitCount_95d88 : rowsOK mJ13_bitCount_95d88 := rowsOK_of (by decide +kernel)
theorem okJ13_bitCount_95d88 : MOK mJ13_bitCount_95d88 := ⟨rwJ13_bitCount_95d88, wm 73 (by decide +kernel) rfl, wm 227 (by decide +kernel) rfl, ⟨by decide +kernel, by decide +kernel, by decide +kernel⟩, by decide +kernel, rfl, by decide, by decide⟩
theorem ocJ13_bitCount_95d88 : MOKc mJ13_bitCount_95d88 := ⟨okJ13_bitCount_95d88, rfl, wm 228 (by decide +kernel) rfl⟩
theorem rwJ0_indexOf_0f7a4 : rowsOK mJ0_indexOf_0f7a4 := rowsOK_of (by decide +kernel)
theorem okJ0_indexOf_0f7a4 : MOK mJ0_indexOf_0f7a4 := ⟨rwJ0_indexOf_0f7a4, wm 75 (by decide +kernel) rfl, ⟨wm 262 (by decide +kernel) rfl, wm 263 (by decide +kernel) rfl⟩, ⟨by decide +kernel, by decide +kernel, by decide +kernel⟩, by decide +kernel, rfl, by decide, by decide⟩
theorem ocJ0_indexOf_0f7a4 : MOKc mJ0_indexOf_0f7a4 := ⟨okJ0_indexOf_0f7a4, rfl, wm 264 (by decide +kernel) rfl⟩
theorem rwJ0_indexOf_7cf53 : rowsOK mJ0_indexOf_7cf53 := rowsOK_of (by decide +kernel)
theorem okJ0_indexOf_7cf53 : MOK mJ0_indexOf_7cf53 := ⟨rwJ0_indexOf_7cf53, wm 75 (by decide +kernel) rfl, ⟨wm 266 (by decide +kernel) rfl, wm 267 (by decide +kernel) rfl⟩, ⟨by decide +kernel, by decide +kernel, by decide +kernel⟩, by decide +kernel, rfl, by decide, by decide⟩
theorem ocJ0_indexOf_7cf53 : MOKc mJ0_indexOf_7cf53 := ⟨okJ0_indexOf_7cf53, rfl, wm 268 (by decide +kernel) rfl⟩
theorem rwJ0_isLatin1_aae02 : rowsOK mJ0_isLatin1_aae02 := rowsOK_of (by decide +kernel)
theorem okJ0_isLatin1_aae02 : MOK mJ0_isLatin1_aae02 := ⟨rwJ0_isLatin1_aae02, wm 75 (by decide +kernel) rfl, ⟨wm 270 (by decide +kernel) rfl, wm 271 (by decide +kernel) rfl⟩, ⟨by decide +kernel, by decide +kernel, by decide +kernel⟩, by decide +kernel, rfl, by decide, by decide⟩
theorem ocJ0_isLatin1_aae02 : MOKc mJ0_isLatin1_aae02 := ⟨okJ0_isLatin1_aae02, rfl, wm 272 (by decide +kernel) rfl⟩
theorem rwJ0_length_8abf5 : rowsOK mJ0_length_8abf5 := rowsOK_of (by decide +kernel)
theorem okJ0_length_8abf5 : MOK mJ0_length_8abf5 := ⟨rwJ0_length_8abf5, wm 75 (by decide +kernel) rfl, ⟨wm 276 (by decide +kernel) rfl, wm 277 (by decide +kernel) rfl⟩, ⟨by decide +kernel, by decide +kernel, by decide +kernel⟩, by decide +kernel, rfl, by decide, by decide⟩
theorem ocJ0_length_8abf5 : MOKc mJ0_length_8abf5 := ⟨okJ0_length_8abf5, rfl, wm 278 (by decide +kernel) rfl⟩
theorem rwJ0_coder_7d493 : rowsOK mJ0_coder_7d493 := rowsOK_of (by decide +kernel)
theorem okJ0_coder_7d493 : MOK mJ0_coder_7d493 := ⟨rwJ0_coder_7d493, wm 75 (by decide +kernel) rfl, ⟨wm 280 (by decide +kernel) rfl, wm 281 (by decide +kernel) rfl⟩, ⟨by decide +kernel, by decide +kernel, by decide +kernel⟩, by decide +kernel, rfl, by decide, by decide⟩
theorem ocJ0_coder_7d493 : MOKc mJ0_coder_7d493 := ⟨okJ0_coder_7d493, rfl, wm 282 (by decide +kernel) rfl⟩
theorem rwJ1_indexOf_4cfef : rowsOK mJ1_indexOf_4cfef := rowsOK_of (by decide +kernel)
theorem okJ1_indexOf_4cfef : MOK mJ1_indexOf_4cfef := ⟨rwJ1_indexOf_4cfef, wm 76 (by decide +kernel) rfl, wm 284 (by decide +kernel) rfl, ⟨by decide +kernel, by decide +kernel, by decide +kernel⟩, by decide +kernel, rfl, by decide, by decide⟩
theorem ocJ1_indexOf_4cfef : MOKc mJ1_indexOf_4cfef := ⟨okJ1_indexOf_4cfef, rfl, wm 285 (by decide +kernel) rfl⟩
theorem rwJ1_canEncode_9a6ad : rowsOK mJ1_canEncode_9a6ad := rowsOK_of (by decide +kernel)
theorem okJ1_canEncode_9a6ad : MOK mJ1_canEncode_9a6ad := ⟨rwJ1_canEncode_9a6ad, wm 76 (by decide +kernel) rfl, wm 287 (by decide +kernel) rfl, ⟨by decide +kernel, by decide +kernel, by decide +kernel⟩, by decide +kernel, rfl, by decide, by decide⟩
theorem ocJ1_canEncode_9a6ad : MOKc mJ1_canEncode_9a6ad := ⟨okJ1_canEncode_9a6ad, rfl, wm 288 (by decide +kernel) rfl⟩
theorem rwJ1_indexOfChar_4cfef : rowsOK mJ1_indexOfChar_4cfef := rowsOK_of (by decide +kernel)
theorem okJ1_indexOfChar_4cfef : MOK mJ1_indexOfChar_4cfef := ⟨rwJ1_indexOfChar_4cfef, wm 76 (by decide +kernel) rfl, wm 296 (by decide +kernel) rfl, ⟨by decide +kernel, by decide +kernel, by decide +kernel⟩, by decide +kernel, rfl, by decide, by decide⟩
theorem ocJ1_indexOfChar_4cfef : MOKc mJ1_indexOfChar_4cfef := ⟨okJ1_indexOfChar_4cfef, rfl, wm 297 (by decide +kernel) rfl⟩

abbrev mX9_init : ec_M := (yX9_init, cX9_init, 1, none)
set_option maxRecDepth 20000 in
theorem wc_X9_init : Cond.code mX9_init.1 mX9_init.2.1 mX9_init.2.2.1 mX9_init.2.2.2 ∈ ec_tb := (ec_in 22 rfl rfl)
abbrev mX5_init : ec_M := (yX5_init, cX5_init, 1, none)
set_option maxRecDepth 20000 in
theorem wc_X5_init : Cond.code mX5_init.1 mX5_init.2.1 mX5_init.2.2.1 mX5_init.2.2.2 ∈ ec_tb := (ec_in 30 rfl rfl)
abbrev mX3_init : ec_M := (yX3_init, cX3_init, 2, none)
set_option maxRecDepth 20000 in
theorem wc_X3_init : Cond.code mX3_init.1 mX3_init.2.1 mX3_init.2.2.1 mX3_init.2.2.2 ∈ ec_tb := (ec_in 49 rfl rfl)
abbrev mJ7_fill_53178 : ec_M := (yJ7_fill_53178, cJ7_fill_53178, 4, none)
set_option maxRecDepth 20000 in
theorem wc_J7_fill_53178 : Cond.code mJ7_fill_53178.1 mJ7_fill_53178.2.1 mJ7_fill_53178.2.2.1 mJ7_fill_53178.2.2.2 ∈ ec_tb := (ec_in 55 rfl rfl)
abbrev mX8_init : ec_M := (yX8_init, cX8_init, 2, none)
set_option maxRecDepth 20000 in
theorem wc_X8_init : Cond.code mX8_init.1 mX8_init.2.1 mX8_init.2.2.1 mX8_init.2.2.2 ∈ ec_tb := (ec_in 70 rfl rfl)
abbrev mX1_init : ec_M := (yX1_init, cX1_init, 2, none)
set_option maxRecDepth 20000 in
theorem wc_X1_init : Cond.code mX1_init.1 mX1_init.2.1 mX1_init.2.2.1 mX1_init.2.2.2 ∈ ec_tb := (ec_in 106 rfl rfl)
abbrev mX7_init : ec_M := (yX7_init, cX7_init, 2, none)
set_option maxRecDepth 20000 in
theorem wc_X7_init : Cond.code mX7_init.1 mX7_init.2.1 mX7_init.2.2.1 mX7_init.2.2.2 ∈ ec_tb := (ec_in 124 rfl rfl)
abbrev mX4_init : ec_M := (yX4_init, cX4_init, 1, none)
set_option maxRecDepth 20000 in
theorem wc_X4_init : Cond.code mX4_init.1 mX4_init.2.1 mX4_init.2.2.1 mX4_init.2.2.2 ∈ ec_tb := (ec_in 156 rfl rfl)
abbrev mX2_init : ec_M := (yX2_init, cX2_init, 1, none)
set_option maxRecDepth 20000 in
theorem wc_X2_init : Cond.code mX2_init.1 mX2_init.2.1 mX2_init.2.2.1 mX2_init.2.2.2 ∈ ec_tb := (ec_in 177 rfl rfl)
abbrev mX6_init : ec_M := (yX6_init, cX6_init, 1, none)
set_option maxRecDepth 20000 in
theorem wc_X6_init : Cond.code mX6_init.1 mX6_init.2.1 mX6_init.2.2.1 mX6_init.2.2.2 ∈ ec_tb := (ec_in 183 rfl rfl)
abbrev mX0_init : ec_M := (yX0_init, cX0_init, 1, none)
set_option maxRecDepth 20000 in
theorem wc_X0_init : Cond.code mX0_init.1 mX0_init.2.1 mX0_init.2.2.1 mX0_init.2.2.2 ∈ ec_tb := (ec_in 222 rfl rfl)
abbrev mX9_letter : ec_M := (yX9_letter, cX9_letter, 2, (some .int))
set_option maxRecDepth 20000 in
theorem wc_X9_letter : Cond.code mX9_letter.1 mX9_letter.2.1 mX9_letter.2.2.1 mX9_letter.2.2.2 ∈ ec_tb := (ec_in 267 rfl rfl)
abbrev mX9_isLetter : ec_M := (yX9_isLetter, cX9_isLetter, 1, (some .boolean))
set_option maxRecDepth 20000 in
theorem wc_X9_isLetter : Cond.code mX9_isLetter.1 mX9_isLetter.2.1 mX9_isLetter.2.2.1 mX9_isLetter.2.2.2 ∈ ec_tb := (ec_in 270 rfl rfl)
abbrev mX5_add : ec_M := (yX5_add, cX5_add, 2, (some .boolean))
set_option maxRecDepth 20000 in
theorem wc_X5_add : Cond.code mX5_add.1 mX5_add.2.1 mX5_add.2.2.1 mX5_add.2.2.2 ∈ ec_tb := (ec_in 274 rfl rfl)
abbrev mX9_clear : ec_M := (yX9_clear, cX9_clear, 2, (some .int))
set_option maxRecDepth 20000 in
theorem wc_X9_clear : Cond.code mX9_clear.1 mX9_clear.2.1 mX9_clear.2.2.1 mX9_clear.2.2.2 ∈ ec_tb := (ec_in 278 rfl rfl)
abbrev mX9_word : ec_M := (yX9_word, cX9_word, 2, (some .int))
set_option maxRecDepth 20000 in
theorem wc_X9_word : Cond.code mX9_word.1 mX9_word.2.1 mX9_word.2.2.1 mX9_word.2.2.2 ∈ ec_tb := (ec_in 282 rfl rfl)
abbrev mX9_isCount : ec_M := (yX9_isCount, cX9_isCount, 1, (some .boolean))
set_option maxRecDepth 20000 in
theorem wc_X9_isCount : Cond.code mX9_isCount.1 mX9_isCount.2.1 mX9_isCount.2.2.1 mX9_isCount.2.2.2 ∈ ec_tb := (ec_in 285 rfl rfl)
abbrev mX8_hasRow : ec_M := (yX8_hasRow, cX8_hasRow, 3, (some .boolean))
set_option maxRecDepth 20000 in
theorem wc_X8_hasRow : Cond.code mX8_hasRow.1 mX8_hasRow.2.1 mX8_hasRow.2.2.1 mX8_hasRow.2.2.2 ∈ ec_tb := (ec_in 289 rfl rfl)
abbrev mX5_compareWith : ec_M := (yX5_compareWith, cX5_compareWith, 4, (some .int))
set_option maxRecDepth 20000 in
theorem wc_X5_compareWith : Cond.code mX5_compareWith.1 mX5_compareWith.2.1 mX5_compareWith.2.2.1 mX5_compareWith.2.2.2 ∈ ec_tb := (ec_in 293 rfl rfl)
abbrev mX8_add : ec_M := (yX8_add, cX8_add, 5, (some .int))
set_option maxRecDepth 20000 in
theorem wc_X8_add : Cond.code mX8_add.1 mX8_add.2.1 mX8_add.2.2.1 mX8_add.2.2.2 ∈ ec_tb := (ec_in 300 rfl rfl)
abbrev mX5_copyOf : ec_M := (yX5_copyOf, cX5_copyOf, 3, none)
set_option maxRecDepth 20000 in
theorem wc_X5_copyOf : Cond.code mX5_copyOf.1 mX5_copyOf.2.1 mX5_copyOf.2.2.1 mX5_copyOf.2.2.2 ∈ ec_tb := (ec_in 304 rfl rfl)
abbrev mX9_count : ec_M := (yX9_count, cX9_count, 4, (some .int))
set_option maxRecDepth 20000 in
theorem wc_X9_count : Cond.code mX9_count.1 mX9_count.2.1 mX9_count.2.2.1 mX9_count.2.2.2 ∈ ec_tb := (ec_in 309 rfl rfl)
abbrev mX8_has : ec_M := (yX8_has, cX8_has, 2, (some .boolean))
set_option maxRecDepth 20000 in
theorem wc_X8_has : Cond.code mX8_has.1 mX8_has.2.1 mX8_has.2.2.1 mX8_has.2.2.2 ∈ ec_tb := (ec_in 313 rfl rfl)
abbrev mX9_at : ec_M := (yX9_at, cX9_at, 4, (some .int))
set_option maxRecDepth 20000 in
theorem wc_X9_at : Cond.code mX9_at.1 mX9_at.2.1 mX9_at.2.2.1 mX9_at.2.2.2 ∈ ec_tb := (ec_in 317 rfl rfl)
abbrev mX8_rankOf : ec_M := (yX8_rankOf, cX8_rankOf, 4, (some .int))
set_option maxRecDepth 20000 in
theorem wc_X8_rankOf : Cond.code mX8_rankOf.1 mX8_rankOf.2.1 mX8_rankOf.2.2.1 mX8_rankOf.2.2.2 ∈ ec_tb := (ec_in 321 rfl rfl)
abbrev mX9_price : ec_M := (yX9_price, cX9_price, 5, (some .int))
set_option maxRecDepth 20000 in
theorem wc_X9_price : Cond.code mX9_price.1 mX9_price.2.1 mX9_price.2.2.1 mX9_price.2.2.2 ∈ ec_tb := (ec_in 325 rfl rfl)
abbrev mX9_near : ec_M := (yX9_near, cX9_near, 5, (some .int))
set_option maxRecDepth 20000 in
theorem wc_X9_near : Cond.code mX9_near.1 mX9_near.2.1 mX9_near.2.2.1 mX9_near.2.2.2 ∈ ec_tb := (ec_in 329 rfl rfl)
abbrev mX9_distance : ec_M := (yX9_distance, cX9_distance, 2, (some .int))
set_option maxRecDepth 20000 in
theorem wc_X9_distance : Cond.code mX9_distance.1 mX9_distance.2.1 mX9_distance.2.2.1 mX9_distance.2.2.2 ∈ ec_tb := (ec_in 333 rfl rfl)
abbrev mX9_priceOfWord : ec_M := (yX9_priceOfWord, cX9_priceOfWord, 2, (some .int))
set_option maxRecDepth 20000 in
theorem wc_X9_priceOfWord : Cond.code mX9_priceOfWord.1 mX9_priceOfWord.2.1 mX9_priceOfWord.2.2.1 mX9_priceOfWord.2.2.2 ∈ ec_tb := (ec_in 337 rfl rfl)
abbrev mX7_measure : ec_M := (yX7_measure, cX7_measure, 3, (some .int))
set_option maxRecDepth 20000 in
theorem wc_X7_measure : Cond.code mX7_measure.1 mX7_measure.2.1 mX7_measure.2.2.1 mX7_measure.2.2.2 ∈ ec_tb := (ec_in 341 rfl rfl)
abbrev mX7_fill : ec_M := (yX7_fill, cX7_fill, 3, none)
set_option maxRecDepth 20000 in
theorem wc_X7_fill : Cond.code mX7_fill.1 mX7_fill.2.1 mX7_fill.2.2.1 mX7_fill.2.2.2 ∈ ec_tb := (ec_in 346 rfl rfl)
abbrev mX7_cheapest : ec_M := (yX7_cheapest, cX7_cheapest, 4, (some .int))
set_option maxRecDepth 20000 in
theorem wc_X7_cheapest : Cond.code mX7_cheapest.1 mX7_cheapest.2.1 mX7_cheapest.2.2.1 mX7_cheapest.2.2.2 ∈ ec_tb := (ec_in 350 rfl rfl)
abbrev mX7_byLast : ec_M := (yX7_byLast, cX7_byLast, 3, (some .int))
set_option maxRecDepth 20000 in
theorem wc_X7_byLast : Cond.code mX7_byLast.1 mX7_byLast.2.1 mX7_byLast.2.2.1 mX7_byLast.2.2.2 ∈ ec_tb := (ec_in 354 rfl rfl)
abbrev mX3_ofBecoming : ec_M := (yX3_ofBecoming, cX3_ofBecoming, 4, (some .int))
set_option maxRecDepth 20000 in
theorem wc_X3_ofBecoming : Cond.code mX3_ofBecoming.1 mX3_ofBecoming.2.1 mX3_ofBecoming.2.2.1 mX3_ofBecoming.2.2.2 ∈ ec_tb := (ec_in 358 rfl rfl)
abbrev mX7_mayChange : ec_M := (yX7_mayChange, cX7_mayChange, 3, (some .boolean))
set_option maxRecDepth 20000 in
theorem wc_X7_mayChange : Cond.code mX7_mayChange.1 mX7_mayChange.2.1 mX7_mayChange.2.2.1 mX7_mayChange.2.2.2 ∈ ec_tb := (ec_in 363 rfl rfl)
abbrev mX7_byChange : ec_M := (yX7_byChange, cX7_byChange, 3, (some .int))
set_option maxRecDepth 20000 in
theorem wc_X7_byChange : Cond.code mX7_byChange.1 mX7_byChange.2.1 mX7_byChange.2.2.1 mX7_byChange.2.2.2 ∈ ec_tb := (ec_in 367 rfl rfl)
abbrev mX7_priceOfFirst : ec_M := (yX7_priceOfFirst, cX7_priceOfFirst, 2, (some .int))
set_option maxRecDepth 20000 in
theorem wc_X7_priceOfFirst : Cond.code mX7_priceOfFirst.1 mX7_priceOfFirst.2.1 mX7_priceOfFirst.2.2.1 mX7_priceOfFirst.2.2.2 ∈ ec_tb := (ec_in 371 rfl rfl)
abbrev mX9_begins : ec_M := (yX9_begins, cX9_begins, 2, (some .int))
set_option maxRecDepth 20000 in
theorem wc_X9_begins : Cond.code mX9_begins.1 mX9_begins.2.1 mX9_begins.2.2.1 mX9_begins.2.2.2 ∈ ec_tb := (ec_in 376 rfl rfl)
abbrev mX7_leastOfBeginnings : ec_M := (yX7_leastOfBeginnings, cX7_leastOfBeginnings, 3, (some .int))
set_option maxRecDepth 20000 in
theorem wc_X7_leastOfBeginnings : Cond.code mX7_leastOfBeginnings.1 mX7_leastOfBeginnings.2.1 mX7_leastOfBeginnings.2.2.1 mX7_leastOfBeginnings.2.2.2 ∈ ec_tb := (ec_in 380 rfl rfl)
abbrev mX9_edit : ec_M := (yX9_edit, cX9_edit, 3, (some .int))
set_option maxRecDepth 20000 in
theorem wc_X9_edit : Cond.code mX9_edit.1 mX9_edit.2.1 mX9_edit.2.2.1 mX9_edit.2.2.2 ∈ ec_tb := (ec_in 384 rfl rfl)
abbrev mX9_findEdits : ec_M := (yX9_findEdits, cX9_findEdits, 2, none)
set_option maxRecDepth 20000 in
theorem wc_X9_findEdits : Cond.code mX9_findEdits.1 mX9_findEdits.2.1 mX9_findEdits.2.2.1 mX9_findEdits.2.2.2 ∈ ec_tb := (ec_in 388 rfl rfl)
abbrev mX7_trace : ec_M := (yX7_trace, cX7_trace, 5, none)
set_option maxRecDepth 20000 in
theorem wc_X7_trace : Cond.code mX7_trace.1 mX7_trace.2.1 mX7_trace.2.2.1 mX7_trace.2.2.2 ∈ ec_tb := (ec_in 392 rfl rfl)
abbrev mX7_note : ec_M := (yX7_note, cX7_note, 3, none)
set_option maxRecDepth 20000 in
theorem wc_X7_note : Cond.code mX7_note.1 mX7_note.2.1 mX7_note.2.2.1 mX7_note.2.2.2 ∈ ec_tb := (ec_in 396 rfl rfl)
abbrev mX7_kindOfEdit : ec_M := (yX7_kindOfEdit, cX7_kindOfEdit, 2, (some .int))
set_option maxRecDepth 20000 in
theorem wc_X7_kindOfEdit : Cond.code mX7_kindOfEdit.1 mX7_kindOfEdit.2.1 mX7_kindOfEdit.2.2.1 mX7_kindOfEdit.2.2.2 ∈ ec_tb := (ec_in 400 rfl rfl)
abbrev mX9_place : ec_M := (yX9_place, cX9_place, 3, (some .int))
set_option maxRecDepth 20000 in
theorem wc_X9_place : Cond.code mX9_place.1 mX9_place.2.1 mX9_place.2.2.1 mX9_place.2.2.2 ∈ ec_tb := (ec_in 404 rfl rfl)
abbrev mX7_placeOfEdit : ec_M := (yX7_placeOfEdit, cX7_placeOfEdit, 2, (some .int))
set_option maxRecDepth 20000 in
theorem wc_X7_placeOfEdit : Cond.code mX7_placeOfEdit.1 mX7_placeOfEdit.2.1 mX7_placeOfEdit.2.2.1 mX7_placeOfEdit.2.2.2 ∈ ec_tb := (ec_in 408 rfl rfl)
abbrev mX9_suggest : ec_M := (yX9_suggest, cX9_suggest, 2, (some .int))
set_option maxRecDepth 20000 in
theorem wc_X9_suggest : Cond.code mX9_suggest.1 mX9_suggest.2.1 mX9_suggest.2.2.1 mX9_suggest.2.2.2 ∈ ec_tb := (ec_in 412 rfl rfl)
abbrev mX9_howMany : ec_M := (yX9_howMany, cX9_howMany, 3, (some .int))
set_option maxRecDepth 20000 in
theorem wc_X9_howMany : Cond.code mX9_howMany.1 mX9_howMany.2.1 mX9_howMany.2.2.1 mX9_howMany.2.2.2 ∈ ec_tb := (ec_in 416 rfl rfl)
abbrev mX9_isLimit : ec_M := (yX9_isLimit, cX9_isLimit, 1, (some .boolean))
set_option maxRecDepth 20000 in
theorem wc_X9_isLimit : Cond.code mX9_isLimit.1 mX9_isLimit.2.1 mX9_isLimit.2.2.1 mX9_isLimit.2.2.2 ∈ ec_tb := (ec_in 419 rfl rfl)
abbrev mX9_rankWords : ec_M := (yX9_rankWords, cX9_rankWords, 7, none)
set_option maxRecDepth 20000 in
theorem wc_X9_rankWords : Cond.code mX9_rankWords.1 mX9_rankWords.2.1 mX9_rankWords.2.2.1 mX9_rankWords.2.2.2 ∈ ec_tb := (ec_in 423 rfl rfl)
abbrev mX4_add : ec_M := (yX4_add, cX4_add, 5, none)
set_option maxRecDepth 20000 in
theorem wc_X4_add : Cond.code mX4_add.1 mX4_add.2.1 mX4_add.2.2.1 mX4_add.2.2.2 ∈ ec_tb := (ec_in 427 rfl rfl)
abbrev mX4_isBehind : ec_M := (yX4_isBehind, cX4_isBehind, 4, (some .boolean))
set_option maxRecDepth 20000 in
theorem wc_X4_isBehind : Cond.code mX4_isBehind.1 mX4_isBehind.2.1 mX4_isBehind.2.2.1 mX4_isBehind.2.2.2 ∈ ec_tb := (ec_in 431 rfl rfl)
abbrev mX9_suggestion : ec_M := (yX9_suggestion, cX9_suggestion, 3, (some .int))
set_option maxRecDepth 20000 in
theorem wc_X9_suggestion : Cond.code mX9_suggestion.1 mX9_suggestion.2.1 mX9_suggestion.2.2.1 mX9_suggestion.2.2.2 ∈ ec_tb := (ec_in 435 rfl rfl)
abbrev mX9_rankedWord : ec_M := (yX9_rankedWord, cX9_rankedWord, 4, (some .int))
set_option maxRecDepth 20000 in
theorem wc_X9_rankedWord : Cond.code mX9_rankedWord.1 mX9_rankedWord.2.1 mX9_rankedWord.2.2.1 mX9_rankedWord.2.2.2 ∈ ec_tb := (ec_in 439 rfl rfl)
abbrev mX9_endings : ec_M := (yX9_endings, cX9_endings, 2, (some .int))
set_option maxRecDepth 20000 in
theorem wc_X9_endings : Cond.code mX9_endings.1 mX9_endings.2.1 mX9_endings.2.2.1 mX9_endings.2.2.2 ∈ ec_tb := (ec_in 443 rfl rfl)
abbrev mX9_ending : ec_M := (yX9_ending, cX9_ending, 3, (some .int))
set_option maxRecDepth 20000 in
theorem wc_X9_ending : Cond.code mX9_ending.1 mX9_ending.2.1 mX9_ending.2.2.1 mX9_ending.2.2.2 ∈ ec_tb := (ec_in 447 rfl rfl)
abbrev mX9_parting : ec_M := (yX9_parting, cX9_parting, 2, (some .int))
set_option maxRecDepth 20000 in
theorem wc_X9_parting : Cond.code mX9_parting.1 mX9_parting.2.1 mX9_parting.2.2.1 mX9_parting.2.2.2 ∈ ec_tb := (ec_in 451 rfl rfl)
abbrev mX2_find : ec_M := (yX2_find, cX2_find, 8, none)
set_option maxRecDepth 20000 in
theorem wc_X2_find : Cond.code mX2_find.1 mX2_find.2.1 mX2_find.2.2.1 mX2_find.2.2.2 ∈ ec_tb := (ec_in 455 rfl rfl)
abbrev mX2_fillSides : ec_M := (yX2_fillSides, cX2_fillSides, 6, none)
set_option maxRecDepth 20000 in
theorem wc_X2_fillSides : Cond.code mX2_fillSides.1 mX2_fillSides.2.1 mX2_fillSides.2.2.1 mX2_fillSides.2.2.2 ∈ ec_tb := (ec_in 459 rfl rfl)
abbrev mX6_empty : ec_M := (yX6_empty, cX6_empty, 1, none)
set_option maxRecDepth 20000 in
theorem wc_X6_empty : Cond.code mX6_empty.1 mX6_empty.2.1 mX6_empty.2.2.1 mX6_empty.2.2.2 ∈ ec_tb := (ec_in 463 rfl rfl)
abbrev mX6_offer : ec_M := (yX6_offer, cX6_offer, 6, none)
set_option maxRecDepth 20000 in
theorem wc_X6_offer : Cond.code mX6_offer.1 mX6_offer.2.1 mX6_offer.2.2.1 mX6_offer.2.2.2 ∈ ec_tb := (ec_in 470 rfl rfl)
abbrev mX7_measureMirrored : ec_M := (yX7_measureMirrored, cX7_measureMirrored, 3, none)
set_option maxRecDepth 20000 in
theorem wc_X7_measureMirrored : Cond.code mX7_measureMirrored.1 mX7_measureMirrored.2.1 mX7_measureMirrored.2.2.1 mX7_measureMirrored.2.2.2 ∈ ec_tb := (ec_in 475 rfl rfl)
abbrev mX5_mirrorOf : ec_M := (yX5_mirrorOf, cX5_mirrorOf, 3, none)
set_option maxRecDepth 20000 in
theorem wc_X5_mirrorOf : Cond.code mX5_mirrorOf.1 mX5_mirrorOf.2.1 mX5_mirrorOf.2.2.1 mX5_mirrorOf.2.2.2 ∈ ec_tb := (ec_in 479 rfl rfl)
abbrev mX9_token : ec_M := (yX9_token, cX9_token, 1, (some .int))
set_option maxRecDepth 20000 in
theorem wc_X9_token : Cond.code mX9_token.1 mX9_token.2.1 mX9_token.2.2.1 mX9_token.2.2.2 ∈ ec_tb := (ec_in 483 rfl rfl)
abbrev mX1_add : ec_M := (yX1_add, cX1_add, 2, (some .boolean))
set_option maxRecDepth 20000 in
theorem wc_X1_add : Cond.code mX1_add.1 mX1_add.2.1 mX1_add.2.2.1 mX1_add.2.2.2 ∈ ec_tb := (ec_in 487 rfl rfl)
abbrev mX9_line : ec_M := (yX9_line, cX9_line, 2, (some .int))
set_option maxRecDepth 20000 in
theorem wc_X9_line : Cond.code mX9_line.1 mX9_line.2.1 mX9_line.2.2.1 mX9_line.2.2.2 ∈ ec_tb := (ec_in 492 rfl rfl)
abbrev mX9_pair : ec_M := (yX9_pair, cX9_pair, 4, (some .int))
set_option maxRecDepth 20000 in
theorem wc_X9_pair : Cond.code mX9_pair.1 mX9_pair.2.1 mX9_pair.2.2.1 mX9_pair.2.2.2 ∈ ec_tb := (ec_in 496 rfl rfl)
abbrev mX8_setPair : ec_M := (yX8_setPair, cX8_setPair, 5, (some .boolean))
set_option maxRecDepth 20000 in
theorem wc_X8_setPair : Cond.code mX8_setPair.1 mX8_setPair.2.1 mX8_setPair.2.2.1 mX8_setPair.2.2.2 ∈ ec_tb := (ec_in 500 rfl rfl)
abbrev mX8_isPair : ec_M := (yX8_isPair, cX8_isPair, 3, (some .boolean))
set_option maxRecDepth 20000 in
theorem wc_X8_isPair : Cond.code mX8_isPair.1 mX8_isPair.2.1 mX8_isPair.2.2.1 mX8_isPair.2.2.2 ∈ ec_tb := (ec_in 504 rfl rfl)
abbrev mX9_chosen : ec_M := (yX9_chosen, cX9_chosen, 4, (some .int))
set_option maxRecDepth 20000 in
theorem wc_X9_chosen : Cond.code mX9_chosen.1 mX9_chosen.2.1 mX9_chosen.2.2.1 mX9_chosen.2.2.2 ∈ ec_tb := (ec_in 508 rfl rfl)
abbrev mX0_measure : ec_M := (yX0_measure, cX0_measure, 8, none)
set_option maxRecDepth 20000 in
theorem wc_X0_measure : Cond.code mX0_measure.1 mX0_measure.2.1 mX0_measure.2.2.1 mX0_measure.2.2.2 ∈ ec_tb := (ec_in 512 rfl rfl)
abbrev mX0_choose : ec_M := (yX0_choose, cX0_choose, 6, (some .int))
set_option maxRecDepth 20000 in
theorem wc_X0_choose : Cond.code mX0_choose.1 mX0_choose.2.1 mX0_choose.2.2.1 mX0_choose.2.2.2 ∈ ec_tb := (ec_in 518 rfl rfl)
abbrev mX0_goOn : ec_M := (yX0_goOn, cX0_goOn, 9, none)
set_option maxRecDepth 20000 in
theorem wc_X0_goOn : Cond.code mX0_goOn.1 mX0_goOn.2.1 mX0_goOn.2.2.1 mX0_goOn.2.2.2 ∈ ec_tb := (ec_in 522 rfl rfl)
abbrev mX0_cheapestFirst : ec_M := (yX0_cheapestFirst, cX0_cheapestFirst, 4, (some .int))
set_option maxRecDepth 20000 in
theorem wc_X0_cheapestFirst : Cond.code mX0_cheapestFirst.1 mX0_cheapestFirst.2.1 mX0_cheapestFirst.2.2.1 mX0_cheapestFirst.2.2.2 ∈ ec_tb := (ec_in 528 rfl rfl)
abbrev mX0_keepRow : ec_M := (yX0_keepRow, cX0_keepRow, 6, none)
set_option maxRecDepth 20000 in
theorem wc_X0_keepRow : Cond.code mX0_keepRow.1 mX0_keepRow.2.1 mX0_keepRow.2.2.1 mX0_keepRow.2.2.2 ∈ ec_tb := (ec_in 532 rfl rfl)
abbrev mX9_share : ec_M := (yX9_share, cX9_share, 2, (some .int))
set_option maxRecDepth 20000 in
theorem wc_X9_share : Cond.code mX9_share.1 mX9_share.2.1 mX9_share.2.2.1 mX9_share.2.2.2 ∈ ec_tb := (ec_in 541 rfl rfl)
abbrev mX10_init : ec_M := (yX10_init, cX10_init, 1, none)
set_option maxRecDepth 20000 in
theorem wc_X10_init : Cond.code mX10_init.1 mX10_init.2.1 mX10_init.2.2.1 mX10_init.2.2.2 ∈ ec_tb := (ec_in 612 rfl rfl)
abbrev mX10_thrown : ec_M := (yX10_thrown, cX10_thrown, 1, (some .int))
set_option maxRecDepth 20000 in
theorem wc_X10_thrown : Cond.code mX10_thrown.1 mX10_thrown.2.1 mX10_thrown.2.2.1 mX10_thrown.2.2.2 ∈ ec_tb := (ec_in 693 rfl rfl)
abbrev mX10_letter : ec_M := (yX10_letter, cX10_letter, 2, (some .int))
set_option maxRecDepth 20000 in
theorem wc_X10_letter : Cond.code mX10_letter.1 mX10_letter.2.1 mX10_letter.2.2.1 mX10_letter.2.2.2 ∈ ec_tb := (ec_in 697 rfl rfl)
abbrev mX10_in : ec_M := (yX10_in, cX10_in, 3, (some .boolean))
set_option maxRecDepth 20000 in
theorem wc_X10_in : Cond.code mX10_in.1 mX10_in.2.1 mX10_in.2.2.1 mX10_in.2.2.2 ∈ ec_tb := (ec_in 700 rfl rfl)
abbrev mX10_clear : ec_M := (yX10_clear, cX10_clear, 2, (some .int))
set_option maxRecDepth 20000 in
theorem wc_X10_clear : Cond.code mX10_clear.1 mX10_clear.2.1 mX10_clear.2.2.1 mX10_clear.2.2.2 ∈ ec_tb := (ec_in 704 rfl rfl)
abbrev mX10_word : ec_M := (yX10_word, cX10_word, 5, (some .int))
set_option maxRecDepth 20000 in
theorem wc_X10_word : Cond.code mX10_word.1 mX10_word.2.1 mX10_word.2.2.1 mX10_word.2.2.2 ∈ ec_tb := (ec_in 708 rfl rfl)
abbrev mX10_count : ec_M := (yX10_count, cX10_count, 4, (some .int))
set_option maxRecDepth 20000 in
theorem wc_X10_count : Cond.code mX10_count.1 mX10_count.2.1 mX10_count.2.2.1 mX10_count.2.2.2 ∈ ec_tb := (ec_in 712 rfl rfl)
abbrev mX10_isWord : ec_M := (yX10_isWord, cX10_isWord, 2, (some .boolean))
set_option maxRecDepth 20000 in
theorem wc_X10_isWord : Cond.code mX10_isWord.1 mX10_isWord.2.1 mX10_isWord.2.2.1 mX10_isWord.2.2.2 ∈ ec_tb := (ec_in 716 rfl rfl)
abbrev mX10_at : ec_M := (yX10_at, cX10_at, 3, (some .int))
set_option maxRecDepth 20000 in
theorem wc_X10_at : Cond.code mX10_at.1 mX10_at.2.1 mX10_at.2.2.1 mX10_at.2.2.2 ∈ ec_tb := (ec_in 720 rfl rfl)
abbrev mX10_rank : ec_M := (yX10_rank, cX10_rank, 4, (some .int))
set_option maxRecDepth 20000 in
theorem wc_X10_rank : Cond.code mX10_rank.1 mX10_rank.2.1 mX10_rank.2.2.1 mX10_rank.2.2.2 ∈ ec_tb := (ec_in 724 rfl rfl)
abbrev mX10_isAhead : ec_M := (yX10_isAhead, cX10_isAhead, 4, (some .boolean))
set_option maxRecDepth 20000 in
theorem wc_X10_isAhead : Cond.code mX10_isAhead.1 mX10_isAhead.2.1 mX10_isAhead.2.2.1 mX10_isAhead.2.2.2 ∈ ec_tb := (ec_in 728 rfl rfl)
abbrev mX10_price : ec_M := (yX10_price, cX10_price, 4, (some .int))
set_option maxRecDepth 20000 in
theorem wc_X10_price : Cond.code mX10_price.1 mX10_price.2.1 mX10_price.2.2.1 mX10_price.2.2.2 ∈ ec_tb := (ec_in 732 rfl rfl)
abbrev mX10_near : ec_M := (yX10_near, cX10_near, 5, (some .int))
set_option maxRecDepth 20000 in
theorem wc_X10_near : Cond.code mX10_near.1 mX10_near.2.1 mX10_near.2.2.1 mX10_near.2.2.2 ∈ ec_tb := (ec_in 736 rfl rfl)
abbrev mX10_distance : ec_M := (yX10_distance, cX10_distance, 2, (some .int))
set_option maxRecDepth 20000 in
theorem wc_X10_distance : Cond.code mX10_distance.1 mX10_distance.2.1 mX10_distance.2.2.1 mX10_distance.2.2.2 ∈ ec_tb := (ec_in 740 rfl rfl)
abbrev mX10_takeTyped : ec_M := (yX10_takeTyped, cX10_takeTyped, 4, none)
set_option maxRecDepth 20000 in
theorem wc_X10_takeTyped : Cond.code mX10_takeTyped.1 mX10_takeTyped.2.1 mX10_takeTyped.2.2.1 mX10_takeTyped.2.2.2 ∈ ec_tb := (ec_in 744 rfl rfl)
abbrev mX10_fill : ec_M := (yX10_fill, cX10_fill, 8, (some .int))
set_option maxRecDepth 20000 in
theorem wc_X10_fill : Cond.code mX10_fill.1 mX10_fill.2.1 mX10_fill.2.2.1 mX10_fill.2.2.2 ∈ ec_tb := (ec_in 748 rfl rfl)
abbrev mX10_becomes : ec_M := (yX10_becomes, cX10_becomes, 4, (some .int))
set_option maxRecDepth 20000 in
theorem wc_X10_becomes : Cond.code mX10_becomes.1 mX10_becomes.2.1 mX10_becomes.2.2.1 mX10_becomes.2.2.2 ∈ ec_tb := (ec_in 753 rfl rfl)
abbrev mX10_isTurned : ec_M := (yX10_isTurned, cX10_isTurned, 4, (some .boolean))
set_option maxRecDepth 20000 in
theorem wc_X10_isTurned : Cond.code mX10_isTurned.1 mX10_isTurned.2.1 mX10_isTurned.2.2.1 mX10_isTurned.2.2.2 ∈ ec_tb := (ec_in 757 rfl rfl)
abbrev mX10_begins : ec_M := (yX10_begins, cX10_begins, 2, (some .int))
set_option maxRecDepth 20000 in
theorem wc_X10_begins : Cond.code mX10_begins.1 mX10_begins.2.1 mX10_begins.2.2.1 mX10_begins.2.2.2 ∈ ec_tb := (ec_in 761 rfl rfl)
abbrev mX10_beginsBy : ec_M := (yX10_beginsBy, cX10_beginsBy, 5, (some .int))
set_option maxRecDepth 20000 in
theorem wc_X10_beginsBy : Cond.code mX10_beginsBy.1 mX10_beginsBy.2.1 mX10_beginsBy.2.2.1 mX10_beginsBy.2.2.2 ∈ ec_tb := (ec_in 765 rfl rfl)
abbrev mX10_edit : ec_M := (yX10_edit, cX10_edit, 3, (some .int))
set_option maxRecDepth 20000 in
theorem wc_X10_edit : Cond.code mX10_edit.1 mX10_edit.2.1 mX10_edit.2.2.1 mX10_edit.2.2.2 ∈ ec_tb := (ec_in 769 rfl rfl)
abbrev mX10_find : ec_M := (yX10_find, cX10_find, 8, none)
set_option maxRecDepth 20000 in
theorem wc_X10_find : Cond.code mX10_find.1 mX10_find.2.1 mX10_find.2.2.1 mX10_find.2.2.2 ∈ ec_tb := (ec_in 773 rfl rfl)
abbrev mX10_note : ec_M := (yX10_note, cX10_note, 3, none)
set_option maxRecDepth 20000 in
theorem wc_X10_note : Cond.code mX10_note.1 mX10_note.2.1 mX10_note.2.2.1 mX10_note.2.2.2 ∈ ec_tb := (ec_in 777 rfl rfl)
abbrev mX10_place : ec_M := (yX10_place, cX10_place, 3, (some .int))
set_option maxRecDepth 20000 in
theorem wc_X10_place : Cond.code mX10_place.1 mX10_place.2.1 mX10_place.2.2.1 mX10_place.2.2.2 ∈ ec_tb := (ec_in 781 rfl rfl)
abbrev mX10_suggest : ec_M := (yX10_suggest, cX10_suggest, 2, (some .int))
set_option maxRecDepth 20000 in
theorem wc_X10_suggest : Cond.code mX10_suggest.1 mX10_suggest.2.1 mX10_suggest.2.2.1 mX10_suggest.2.2.2 ∈ ec_tb := (ec_in 785 rfl rfl)
abbrev mX10_look : ec_M := (yX10_look, cX10_look, 6, none)
set_option maxRecDepth 20000 in
theorem wc_X10_look : Cond.code mX10_look.1 mX10_look.2.1 mX10_look.2.2.1 mX10_look.2.2.2 ∈ ec_tb := (ec_in 789 rfl rfl)
abbrev mX10_isBefore : ec_M := (yX10_isBefore, cX10_isBefore, 5, (some .boolean))
set_option maxRecDepth 20000 in
theorem wc_X10_isBefore : Cond.code mX10_isBefore.1 mX10_isBefore.2.1 mX10_isBefore.2.2.1 mX10_isBefore.2.2.2 ∈ ec_tb := (ec_in 793 rfl rfl)
abbrev mX10_suggestion : ec_M := (yX10_suggestion, cX10_suggestion, 3, (some .int))
set_option maxRecDepth 20000 in
theorem wc_X10_suggestion : Cond.code mX10_suggestion.1 mX10_suggestion.2.1 mX10_suggestion.2.2.1 mX10_suggestion.2.2.2 ∈ ec_tb := (ec_in 797 rfl rfl)
abbrev mX10_endings : ec_M := (yX10_endings, cX10_endings, 2, (some .int))
set_option maxRecDepth 20000 in
theorem wc_X10_endings : Cond.code mX10_endings.1 mX10_endings.2.1 mX10_endings.2.2.1 mX10_endings.2.2.2 ∈ ec_tb := (ec_in 801 rfl rfl)
abbrev mX10_ending : ec_M := (yX10_ending, cX10_ending, 3, (some .int))
set_option maxRecDepth 20000 in
theorem wc_X10_ending : Cond.code mX10_ending.1 mX10_ending.2.1 mX10_ending.2.2.1 mX10_ending.2.2.2 ∈ ec_tb := (ec_in 805 rfl rfl)
abbrev mX10_parting : ec_M := (yX10_parting, cX10_parting, 10, (some .int))
set_option maxRecDepth 20000 in
theorem wc_X10_parting : Cond.code mX10_parting.1 mX10_parting.2.1 mX10_parting.2.2.1 mX10_parting.2.2.2 ∈ ec_tb := (ec_in 809 rfl rfl)
abbrev mX10_side : ec_M := (yX10_side, cX10_side, 6, (some .int))
set_option maxRecDepth 20000 in
theorem wc_X10_side : Cond.code mX10_side.1 mX10_side.2.1 mX10_side.2.2.1 mX10_side.2.2.2 ∈ ec_tb := (ec_in 813 rfl rfl)
abbrev mX10_token : ec_M := (yX10_token, cX10_token, 2, (some .int))
set_option maxRecDepth 20000 in
theorem wc_X10_token : Cond.code mX10_token.1 mX10_token.2.1 mX10_token.2.2.1 mX10_token.2.2.2 ∈ ec_tb := (ec_in 817 rfl rfl)
abbrev mX10_line : ec_M := (yX10_line, cX10_line, 2, (some .int))
set_option maxRecDepth 20000 in
theorem wc_X10_line : Cond.code mX10_line.1 mX10_line.2.1 mX10_line.2.2.1 mX10_line.2.2.2 ∈ ec_tb := (ec_in 821 rfl rfl)
abbrev mX10_pair : ec_M := (yX10_pair, cX10_pair, 5, (some .int))
set_option maxRecDepth 20000 in
theorem wc_X10_pair : Cond.code mX10_pair.1 mX10_pair.2.1 mX10_pair.2.2.1 mX10_pair.2.2.2 ∈ ec_tb := (ec_in 825 rfl rfl)
abbrev mX10_chosen : ec_M := (yX10_chosen, cX10_chosen, 9, (some .int))
set_option maxRecDepth 20000 in
theorem wc_X10_chosen : Cond.code mX10_chosen.1 mX10_chosen.2.1 mX10_chosen.2.2.1 mX10_chosen.2.2.2 ∈ ec_tb := (ec_in 829 rfl rfl)
abbrev mX10_nextTo : ec_M := (yX10_nextTo, cX10_nextTo, 3, (some .int))
set_option maxRecDepth 20000 in
theorem wc_X10_nextTo : Cond.code mX10_nextTo.1 mX10_nextTo.2.1 mX10_nextTo.2.2.1 mX10_nextTo.2.2.2 ∈ ec_tb := (ec_in 833 rfl rfl)
abbrev mX10_share : ec_M := (yX10_share, cX10_share, 2, (some .int))
set_option maxRecDepth 20000 in
theorem wc_X10_share : Cond.code mX10_share.1 mX10_share.2.1 mX10_share.2.2.1 mX10_share.2.2.2 ∈ ec_tb := (ec_in 837 rfl rfl)
set_option maxRecDepth 20000 in
theorem uw_0 : ∀ w ∈ u_ws RX0 TX0 4, w ∈ ec_tb := List.forall_mem_cons.mpr ⟨(ec_in 230 rfl rfl), List.forall_mem_cons.mpr ⟨(ec_in 232 rfl rfl), List.forall_mem_cons.mpr ⟨(ec_in 234 rfl rfl), List.forall_mem_cons.mpr ⟨(ec_in 236 rfl rfl), fun _ h => absurd h List.not_mem_nil⟩⟩⟩⟩
set_option maxRecDepth 20000 in
theorem uw_1 : ∀ w ∈ u_ws RX1 TX1 2, w ∈ ec_tb := List.forall_mem_cons.mpr ⟨(ec_in 115 rfl rfl), List.forall_mem_cons.mpr ⟨(ec_in 117 rfl rfl), fun _ h => absurd h List.not_mem_nil⟩⟩
set_option maxRecDepth 20000 in
theorem uw_2 : ∀ w ∈ u_ws RX2 TX2 6, w ∈ ec_tb := List.forall_mem_cons.mpr ⟨(ec_in 205 rfl rfl), List.forall_mem_cons.mpr ⟨(ec_in 207 rfl rfl), List.forall_mem_cons.mpr ⟨(ec_in 209 rfl rfl), List.forall_mem_cons.mpr ⟨(ec_in 211 rfl rfl), List.forall_mem_cons.mpr ⟨(ec_in 213 rfl rfl), List.forall_mem_cons.mpr ⟨(ec_in 215 rfl rfl), fun _ h => absurd h List.not_mem_nil⟩⟩⟩⟩⟩⟩
set_option maxRecDepth 20000 in
theorem uw_3 : ∀ w ∈ u_ws RX3 TX3 2, w ∈ ec_tb := List.forall_mem_cons.mpr ⟨(ec_in 61 rfl rfl), List.forall_mem_cons.mpr ⟨(ec_in 63 rfl rfl), fun _ h => absurd h List.not_mem_nil⟩⟩
set_option maxRecDepth 20000 in
theorem uw_4 : ∀ w ∈ u_ws RX4 TX4 4, w ∈ ec_tb := List.forall_mem_cons.mpr ⟨(ec_in 164 rfl rfl), List.forall_mem_cons.mpr ⟨(ec_in 166 rfl rfl), List.forall_mem_cons.mpr ⟨(ec_in 168 rfl rfl), List.forall_mem_cons.mpr ⟨(ec_in 170 rfl rfl), fun _ h => absurd h List.not_mem_nil⟩⟩⟩⟩
set_option maxRecDepth 20000 in
theorem uw_5 : ∀ w ∈ u_ws RX5 TX5 2, w ∈ ec_tb := List.forall_mem_cons.mpr ⟨(ec_in 39 rfl rfl), List.forall_mem_cons.mpr ⟨(ec_in 41 rfl rfl), fun _ h => absurd h List.not_mem_nil⟩⟩
set_option maxRecDepth 20000 in
theorem uw_6 : ∀ w ∈ u_ws RX6 TX6 2, w ∈ ec_tb := List.forall_mem_cons.mpr ⟨(ec_in 189 rfl rfl), List.forall_mem_cons.mpr ⟨(ec_in 191 rfl rfl), fun _ h => absurd h List.not_mem_nil⟩⟩
set_option maxRecDepth 20000 in
theorem uw_7 : ∀ w ∈ u_ws RX7 TX7 7, w ∈ ec_tb := List.forall_mem_cons.mpr ⟨(ec_in 137 rfl rfl), List.forall_mem_cons.mpr ⟨(ec_in 139 rfl rfl), List.forall_mem_cons.mpr ⟨(ec_in 141 rfl rfl), List.forall_mem_cons.mpr ⟨(ec_in 143 rfl rfl), List.forall_mem_cons.mpr ⟨(ec_in 145 rfl rfl), List.forall_mem_cons.mpr ⟨(ec_in 147 rfl rfl), List.forall_mem_cons.mpr ⟨(ec_in 149 rfl rfl), fun _ h => absurd h List.not_mem_nil⟩⟩⟩⟩⟩⟩⟩
set_option maxRecDepth 20000 in
theorem uw_8 : ∀ w ∈ u_ws RX8 TX8 5, w ∈ ec_tb := List.forall_mem_cons.mpr ⟨(ec_in 90 rfl rfl), List.forall_mem_cons.mpr ⟨(ec_in 92 rfl rfl), List.forall_mem_cons.mpr ⟨(ec_in 94 rfl rfl), List.forall_mem_cons.mpr ⟨(ec_in 96 rfl rfl), List.forall_mem_cons.mpr ⟨(ec_in 98 rfl rfl), fun _ h => absurd h List.not_mem_nil⟩⟩⟩⟩⟩
set_option maxRecDepth 20000 in
theorem uw_9 : ∀ w ∈ u_ws RX9 TX9 8, w ∈ ec_tb := List.forall_mem_cons.mpr ⟨(ec_in 247 rfl rfl), List.forall_mem_cons.mpr ⟨(ec_in 249 rfl rfl), List.forall_mem_cons.mpr ⟨(ec_in 251 rfl rfl), List.forall_mem_cons.mpr ⟨(ec_in 253 rfl rfl), List.forall_mem_cons.mpr ⟨(ec_in 255 rfl rfl), List.forall_mem_cons.mpr ⟨(ec_in 257 rfl rfl), List.forall_mem_cons.mpr ⟨(ec_in 259 rfl rfl), List.forall_mem_cons.mpr ⟨(ec_in 261 rfl rfl), fun _ h => absurd h List.not_mem_nil⟩⟩⟩⟩⟩⟩⟩⟩
set_option maxRecDepth 20000 in
theorem uw_10 : ∀ w ∈ u_ws RX10 TX10 25, w ∈ ec_tb := List.forall_mem_cons.mpr ⟨(ec_in 639 rfl rfl), List.forall_mem_cons.mpr ⟨(ec_in 641 rfl rfl), List.forall_mem_cons.mpr ⟨(ec_in 643 rfl rfl), List.forall_mem_cons.mpr ⟨(ec_in 645 rfl rfl), List.forall_mem_cons.mpr ⟨(ec_in 647 rfl rfl), List.forall_mem_cons.mpr ⟨(ec_in 649 rfl rfl), List.forall_mem_cons.mpr ⟨(ec_in 651 rfl rfl), List.forall_mem_cons.mpr ⟨(ec_in 653 rfl rfl), List.forall_mem_cons.mpr ⟨(ec_in 655 rfl rfl), List.forall_mem_cons.mpr ⟨(ec_in 657 rfl rfl), List.forall_mem_cons.mpr ⟨(ec_in 659 rfl rfl), List.forall_mem_cons.mpr ⟨(ec_in 661 rfl rfl), List.forall_mem_cons.mpr ⟨(ec_in 663 rfl rfl), List.forall_mem_cons.mpr ⟨(ec_in 665 rfl rfl), List.forall_mem_cons.mpr ⟨(ec_in 667 rfl rfl), List.forall_mem_cons.mpr ⟨(ec_in 669 rfl rfl), List.forall_mem_cons.mpr ⟨(ec_in 671 rfl rfl), List.forall_mem_cons.mpr ⟨(ec_in 673 rfl rfl), List.forall_mem_cons.mpr ⟨(ec_in 675 rfl rfl), List.forall_mem_cons.mpr ⟨(ec_in 677 rfl rfl), List.forall_mem_cons.mpr ⟨(ec_in 679 rfl rfl), List.forall_mem_cons.mpr ⟨(ec_in 681 rfl rfl), List.forall_mem_cons.mpr ⟨(ec_in 683 rfl rfl), List.forall_mem_cons.mpr ⟨(ec_in 685 rfl rfl), List.forall_mem_cons.mpr ⟨(ec_in 687 rfl rfl), fun _ h => absurd h List.not_mem_nil⟩⟩⟩⟩⟩⟩⟩⟩⟩⟩⟩⟩⟩⟩⟩⟩⟩⟩⟩⟩⟩⟩⟩⟩⟩
set_option maxRecDepth 20000 in
theorem lf_X5_9 : ec_fl RX5 9 5 0 := ⟨RX5, TX5, 2, rfl, by decide, uw_5, (ec_in 32 rfl rfl)⟩
set_option maxRecDepth 20000 in
theorem lp_X5_9 : ec_fp RX5 9 5 0 true (tyX5 0) := ⟨RX5, TX5, 2, tyX5, rfl, by decide, uw_5, (ec_in 32 rfl rfl), tyX5_ok, nmX5, rfl, rfl, fun _ => rfl⟩
set_option maxRecDepth 20000 in
theorem lf_X9_106 : ec_fl RX9 106 5 0 := ⟨RX5, TX5, 2, rfl, by decide, uw_5, (ec_in 33 rfl rfl)⟩
set_option maxRecDepth 20000 in
theorem lf_X7_68 : ec_fl RX7 68 5 0 := ⟨RX5, TX5, 2, rfl, by decide, uw_5, (ec_in 34 rfl rfl)⟩
set_option maxRecDepth 20000 in
theorem lf_X5_15 : ec_fl RX5 15 5 1 := ⟨RX5, TX5, 2, rfl, by decide, uw_5, (ec_in 35 rfl rfl)⟩
set_option maxRecDepth 20000 in
theorem lp_X5_15 : ec_fp RX5 15 5 1 false (tyX5 1) := ⟨RX5, TX5, 2, tyX5, rfl, by decide, uw_5, (ec_in 35 rfl rfl), tyX5_ok, nmX5, rfl, rfl, fun h => nomatch h⟩
set_option maxRecDepth 20000 in
theorem lf_X2_39 : ec_fl RX2 39 5 1 := ⟨RX5, TX5, 2, rfl, by decide, uw_5, (ec_in 36 rfl rfl)⟩
set_option maxRecDepth 20000 in
theorem lp_X2_39 : ec_fp RX2 39 5 1 false (tyX5 1) := ⟨RX5, TX5, 2, tyX5, rfl, by decide, uw_5, (ec_in 36 rfl rfl), tyX5_ok, nmX5, rfl, rfl, fun h => nomatch h⟩
set_option maxRecDepth 20000 in
theorem lf_X7_48 : ec_fl RX7 48 5 1 := ⟨RX5, TX5, 2, rfl, by decide, uw_5, (ec_in 37 rfl rfl)⟩
set_option maxRecDepth 20000 in
theorem lp_X7_48 : ec_fp RX7 48 5 1 false (tyX5 1) := ⟨RX5, TX5, 2, tyX5, rfl, by decide, uw_5, (ec_in 37 rfl rfl), tyX5_ok, nmX5, rfl, rfl, fun h => nomatch h⟩
set_option maxRecDepth 20000 in
theorem lf_X9_74 : ec_fl RX9 74 5 1 := ⟨RX5, TX5, 2, rfl, by decide, uw_5, (ec_in 38 rfl rfl)⟩
set_option maxRecDepth 20000 in
theorem lp_X9_74 : ec_fp RX9 74 5 1 false (tyX5 1) := ⟨RX5, TX5, 2, tyX5, rfl, by decide, uw_5, (ec_in 38 rfl rfl), tyX5_ok, nmX5, rfl, rfl, fun h => nomatch h⟩
set_option maxRecDepth 20000 in
theorem lf_X3_9 : ec_fl RX3 9 3 0 := ⟨RX3, TX3, 2, rfl, by decide, uw_3, (ec_in 56 rfl rfl)⟩
set_option maxRecDepth 20000 in
theorem lp_X3_9 : ec_fp RX3 9 3 0 true (tyX3 0) := ⟨RX3, TX3, 2, tyX3, rfl, by decide, uw_3, (ec_in 56 rfl rfl), tyX3_ok, nmX3, rfl, rfl, fun _ => rfl⟩
set_option maxRecDepth 20000 in
theorem lf_X7_82 : ec_fl RX7 82 3 0 := ⟨RX3, TX3, 2, rfl, by decide, uw_3, (ec_in 57 rfl rfl)⟩
set_option maxRecDepth 20000 in
theorem lf_X9_109 : ec_fl RX9 109 3 0 := ⟨RX3, TX3, 2, rfl, by decide, uw_3, (ec_in 58 rfl rfl)⟩
set_option maxRecDepth 20000 in
theorem lf_X3_17 : ec_fl RX3 17 3 1 := ⟨RX3, TX3, 2, rfl, by decide, uw_3, (ec_in 59 rfl rfl)⟩
set_option maxRecDepth 20000 in
theorem lp_X3_17 : ec_fp RX3 17 3 1 true (tyX3 1) := ⟨RX3, TX3, 2, tyX3, rfl, by decide, uw_3, (ec_in 59 rfl rfl), tyX3_ok, nmX3, rfl, rfl, fun _ => rfl⟩
set_option maxRecDepth 20000 in
theorem lf_X9_112 : ec_fl RX9 112 3 1 := ⟨RX3, TX3, 2, rfl, by decide, uw_3, (ec_in 60 rfl rfl)⟩
set_option maxRecDepth 20000 in
theorem lf_X8_11 : ec_fl RX8 11 8 0 := ⟨RX8, TX8, 5, rfl, by decide, uw_8, (ec_in 75 rfl rfl)⟩
set_option maxRecDepth 20000 in
theorem lp_X8_11 : ec_fp RX8 11 8 0 true (tyX8 0) := ⟨RX8, TX8, 5, tyX8, rfl, by decide, uw_8, (ec_in 75 rfl rfl), tyX8_ok, nmX8, rfl, rfl, fun _ => rfl⟩
set_option maxRecDepth 20000 in
theorem lf_X0_39 : ec_fl RX0 39 8 0 := ⟨RX8, TX8, 5, rfl, by decide, uw_8, (ec_in 76 rfl rfl)⟩
set_option maxRecDepth 20000 in
theorem lf_X2_62 : ec_fl RX2 62 8 0 := ⟨RX8, TX8, 5, rfl, by decide, uw_8, (ec_in 77 rfl rfl)⟩
set_option maxRecDepth 20000 in
theorem lf_X9_98 : ec_fl RX9 98 8 0 := ⟨RX8, TX8, 5, rfl, by decide, uw_8, (ec_in 78 rfl rfl)⟩
set_option maxRecDepth 20000 in
theorem lf_X8_17 : ec_fl RX8 17 8 1 := ⟨RX8, TX8, 5, rfl, by decide, uw_8, (ec_in 79 rfl rfl)⟩
set_option maxRecDepth 20000 in
theorem lp_X8_17 : ec_fp RX8 17 8 1 true (tyX8 1) := ⟨RX8, TX8, 5, tyX8, rfl, by decide, uw_8, (ec_in 79 rfl rfl), tyX8_ok, nmX8, rfl, rfl, fun _ => rfl⟩
set_option maxRecDepth 20000 in
theorem lf_X9_94 : ec_fl RX9 94 8 1 := ⟨RX8, TX8, 5, rfl, by decide, uw_8, (ec_in 80 rfl rfl)⟩
set_option maxRecDepth 20000 in
theorem lf_X8_21 : ec_fl RX8 21 8 2 := ⟨RX8, TX8, 5, rfl, by decide, uw_8, (ec_in 81 rfl rfl)⟩
set_option maxRecDepth 20000 in
theorem lp_X8_21 : ec_fp RX8 21 8 2 true (tyX8 2) := ⟨RX8, TX8, 5, tyX8, rfl, by decide, uw_8, (ec_in 81 rfl rfl), tyX8_ok, nmX8, rfl, rfl, fun _ => rfl⟩
set_option maxRecDepth 20000 in
theorem lf_X0_40 : ec_fl RX0 40 8 2 := ⟨RX8, TX8, 5, rfl, by decide, uw_8, (ec_in 82 rfl rfl)⟩
set_option maxRecDepth 20000 in
theorem lf_X2_59 : ec_fl RX2 59 8 2 := ⟨RX8, TX8, 5, rfl, by decide, uw_8, (ec_in 83 rfl rfl)⟩
set_option maxRecDepth 20000 in
theorem lf_X9_203 : ec_fl RX9 203 8 2 := ⟨RX8, TX8, 5, rfl, by decide, uw_8, (ec_in 84 rfl rfl)⟩
set_option maxRecDepth 20000 in
theorem lf_X8_24 : ec_fl RX8 24 8 3 := ⟨RX8, TX8, 5, rfl, by decide, uw_8, (ec_in 85 rfl rfl)⟩
set_option maxRecDepth 20000 in
theorem lp_X8_24 : ec_fp RX8 24 8 3 true (tyX8 3) := ⟨RX8, TX8, 5, tyX8, rfl, by decide, uw_8, (ec_in 85 rfl rfl), tyX8_ok, nmX8, rfl, rfl, fun _ => rfl⟩
set_option maxRecDepth 20000 in
theorem lf_X8_28 : ec_fl RX8 28 8 4 := ⟨RX8, TX8, 5, rfl, by decide, uw_8, (ec_in 86 rfl rfl)⟩
set_option maxRecDepth 20000 in
theorem lp_X8_28 : ec_fp RX8 28 8 4 false (tyX8 4) := ⟨RX8, TX8, 5, tyX8, rfl, by decide, uw_8, (ec_in 86 rfl rfl), tyX8_ok, nmX8, rfl, rfl, fun h => nomatch h⟩
set_option maxRecDepth 20000 in
theorem lf_X0_32 : ec_fl RX0 32 8 4 := ⟨RX8, TX8, 5, rfl, by decide, uw_8, (ec_in 87 rfl rfl)⟩
set_option maxRecDepth 20000 in
theorem lp_X0_32 : ec_fp RX0 32 8 4 false (tyX8 4) := ⟨RX8, TX8, 5, tyX8, rfl, by decide, uw_8, (ec_in 87 rfl rfl), tyX8_ok, nmX8, rfl, rfl, fun h => nomatch h⟩
set_option maxRecDepth 20000 in
theorem lf_X2_54 : ec_fl RX2 54 8 4 := ⟨RX8, TX8, 5, rfl, by decide, uw_8, (ec_in 88 rfl rfl)⟩
set_option maxRecDepth 20000 in
theorem lp_X2_54 : ec_fp RX2 54 8 4 false (tyX8 4) := ⟨RX8, TX8, 5, tyX8, rfl, by decide, uw_8, (ec_in 88 rfl rfl), tyX8_ok, nmX8, rfl, rfl, fun h => nomatch h⟩
set_option maxRecDepth 20000 in
theorem lf_X9_85 : ec_fl RX9 85 8 4 := ⟨RX8, TX8, 5, rfl, by decide, uw_8, (ec_in 89 rfl rfl)⟩
set_option maxRecDepth 20000 in
theorem lp_X9_85 : ec_fp RX9 85 8 4 false (tyX8 4) := ⟨RX8, TX8, 5, tyX8, rfl, by decide, uw_8, (ec_in 89 rfl rfl), tyX8_ok, nmX8, rfl, rfl, fun h => nomatch h⟩
set_option maxRecDepth 20000 in
theorem lf_X1_11 : ec_fl RX1 11 1 0 := ⟨RX1, TX1, 2, rfl, by decide, uw_1, (ec_in 110 rfl rfl)⟩
set_option maxRecDepth 20000 in
theorem lp_X1_11 : ec_fp RX1 11 1 0 true (tyX1 0) := ⟨RX1, TX1, 2, tyX1, rfl, by decide, uw_1, (ec_in 110 rfl rfl), tyX1_ok, nmX1, rfl, rfl, fun _ => rfl⟩
set_option maxRecDepth 20000 in
theorem lf_X0_35 : ec_fl RX0 35 1 0 := ⟨RX1, TX1, 2, rfl, by decide, uw_1, (ec_in 111 rfl rfl)⟩
set_option maxRecDepth 20000 in
theorem lf_X1_17 : ec_fl RX1 17 1 1 := ⟨RX1, TX1, 2, rfl, by decide, uw_1, (ec_in 112 rfl rfl)⟩
set_option maxRecDepth 20000 in
theorem lp_X1_17 : ec_fp RX1 17 1 1 false (tyX1 1) := ⟨RX1, TX1, 2, tyX1, rfl, by decide, uw_1, (ec_in 112 rfl rfl), tyX1_ok, nmX1, rfl, rfl, fun h => nomatch h⟩
set_option maxRecDepth 20000 in
theorem lf_X0_26 : ec_fl RX0 26 1 1 := ⟨RX1, TX1, 2, rfl, by decide, uw_1, (ec_in 113 rfl rfl)⟩
set_option maxRecDepth 20000 in
theorem lp_X0_26 : ec_fp RX0 26 1 1 false (tyX1 1) := ⟨RX1, TX1, 2, tyX1, rfl, by decide, uw_1, (ec_in 113 rfl rfl), tyX1_ok, nmX1, rfl, rfl, fun h => nomatch h⟩
set_option maxRecDepth 20000 in
theorem lf_X9_166 : ec_fl RX9 166 1 1 := ⟨RX1, TX1, 2, rfl, by decide, uw_1, (ec_in 114 rfl rfl)⟩
set_option maxRecDepth 20000 in
theorem lp_X9_166 : ec_fp RX9 166 1 1 false (tyX1 1) := ⟨RX1, TX1, 2, tyX1, rfl, by decide, uw_1, (ec_in 114 rfl rfl), tyX1_ok, nmX1, rfl, rfl, fun h => nomatch h⟩
set_option maxRecDepth 20000 in
theorem lf_X7_37 : ec_fl RX7 37 7 0 := ⟨RX7, TX7, 7, rfl, by decide, uw_7, (ec_in 129 rfl rfl)⟩
set_option maxRecDepth 20000 in
theorem lp_X7_37 : ec_fp RX7 37 7 0 true (tyX7 0) := ⟨RX7, TX7, 7, tyX7, rfl, by decide, uw_7, (ec_in 129 rfl rfl), tyX7_ok, nmX7, rfl, rfl, fun _ => rfl⟩
set_option maxRecDepth 20000 in
theorem lf_X7_12 : ec_fl RX7 12 7 1 := ⟨RX7, TX7, 7, rfl, by decide, uw_7, (ec_in 130 rfl rfl)⟩
set_option maxRecDepth 20000 in
theorem lp_X7_12 : ec_fp RX7 12 7 1 true (tyX7 1) := ⟨RX7, TX7, 7, tyX7, rfl, by decide, uw_7, (ec_in 130 rfl rfl), tyX7_ok, nmX7, rfl, rfl, fun _ => rfl⟩
set_option maxRecDepth 20000 in
theorem lf_X7_18 : ec_fl RX7 18 7 2 := ⟨RX7, TX7, 7, rfl, by decide, uw_7, (ec_in 131 rfl rfl)⟩
set_option maxRecDepth 20000 in
theorem lp_X7_18 : ec_fp RX7 18 7 2 true (tyX7 2) := ⟨RX7, TX7, 7, tyX7, rfl, by decide, uw_7, (ec_in 131 rfl rfl), tyX7_ok, nmX7, rfl, rfl, fun _ => rfl⟩
set_option maxRecDepth 20000 in
theorem lf_X7_23 : ec_fl RX7 23 7 3 := ⟨RX7, TX7, 7, rfl, by decide, uw_7, (ec_in 132 rfl rfl)⟩
set_option maxRecDepth 20000 in
theorem lp_X7_23 : ec_fp RX7 23 7 3 true (tyX7 3) := ⟨RX7, TX7, 7, tyX7, rfl, by decide, uw_7, (ec_in 132 rfl rfl), tyX7_ok, nmX7, rfl, rfl, fun _ => rfl⟩
set_option maxRecDepth 20000 in
theorem lf_X7_26 : ec_fl RX7 26 7 4 := ⟨RX7, TX7, 7, rfl, by decide, uw_7, (ec_in 133 rfl rfl)⟩
set_option maxRecDepth 20000 in
theorem lp_X7_26 : ec_fp RX7 26 7 4 true (tyX7 4) := ⟨RX7, TX7, 7, tyX7, rfl, by decide, uw_7, (ec_in 133 rfl rfl), tyX7_ok, nmX7, rfl, rfl, fun _ => rfl⟩
set_option maxRecDepth 20000 in
theorem lf_X7_30 : ec_fl RX7 30 7 5 := ⟨RX7, TX7, 7, rfl, by decide, uw_7, (ec_in 134 rfl rfl)⟩
set_option maxRecDepth 20000 in
theorem lp_X7_30 : ec_fp RX7 30 7 5 true (tyX7 5) := ⟨RX7, TX7, 7, tyX7, rfl, by decide, uw_7, (ec_in 134 rfl rfl), tyX7_ok, nmX7, rfl, rfl, fun _ => rfl⟩
set_option maxRecDepth 20000 in
theorem lf_X7_33 : ec_fl RX7 33 7 6 := ⟨RX7, TX7, 7, rfl, by decide, uw_7, (ec_in 135 rfl rfl)⟩
set_option maxRecDepth 20000 in
theorem lp_X7_33 : ec_fp RX7 33 7 6 false (tyX7 6) := ⟨RX7, TX7, 7, tyX7, rfl, by decide, uw_7, (ec_in 135 rfl rfl), tyX7_ok, nmX7, rfl, rfl, fun h => nomatch h⟩
set_option maxRecDepth 20000 in
theorem lf_X9_131 : ec_fl RX9 131 7 6 := ⟨RX7, TX7, 7, rfl, by decide, uw_7, (ec_in 136 rfl rfl)⟩
set_option maxRecDepth 20000 in
theorem lp_X9_131 : ec_fp RX9 131 7 6 false (tyX7 6) := ⟨RX7, TX7, 7, tyX7, rfl, by decide, uw_7, (ec_in 136 rfl rfl), tyX7_ok, nmX7, rfl, rfl, fun h => nomatch h⟩
set_option maxRecDepth 20000 in
theorem lf_X4_9 : ec_fl RX4 9 4 0 := ⟨RX4, TX4, 4, rfl, by decide, uw_4, (ec_in 158 rfl rfl)⟩
set_option maxRecDepth 20000 in
theorem lp_X4_9 : ec_fp RX4 9 4 0 true (tyX4 0) := ⟨RX4, TX4, 4, tyX4, rfl, by decide, uw_4, (ec_in 158 rfl rfl), tyX4_ok, nmX4, rfl, rfl, fun _ => rfl⟩
set_option maxRecDepth 20000 in
theorem lf_X9_200 : ec_fl RX9 200 4 0 := ⟨RX4, TX4, 4, rfl, by decide, uw_4, (ec_in 159 rfl rfl)⟩
set_option maxRecDepth 20000 in
theorem lf_X4_15 : ec_fl RX4 15 4 1 := ⟨RX4, TX4, 4, rfl, by decide, uw_4, (ec_in 160 rfl rfl)⟩
set_option maxRecDepth 20000 in
theorem lp_X4_15 : ec_fp RX4 15 4 1 true (tyX4 1) := ⟨RX4, TX4, 4, tyX4, rfl, by decide, uw_4, (ec_in 160 rfl rfl), tyX4_ok, nmX4, rfl, rfl, fun _ => rfl⟩
set_option maxRecDepth 20000 in
theorem lf_X4_18 : ec_fl RX4 18 4 2 := ⟨RX4, TX4, 4, rfl, by decide, uw_4, (ec_in 161 rfl rfl)⟩
set_option maxRecDepth 20000 in
theorem lp_X4_18 : ec_fp RX4 18 4 2 true (tyX4 2) := ⟨RX4, TX4, 4, tyX4, rfl, by decide, uw_4, (ec_in 161 rfl rfl), tyX4_ok, nmX4, rfl, rfl, fun _ => rfl⟩
set_option maxRecDepth 20000 in
theorem lf_X4_21 : ec_fl RX4 21 4 3 := ⟨RX4, TX4, 4, rfl, by decide, uw_4, (ec_in 162 rfl rfl)⟩
set_option maxRecDepth 20000 in
theorem lp_X4_21 : ec_fp RX4 21 4 3 false (tyX4 3) := ⟨RX4, TX4, 4, tyX4, rfl, by decide, uw_4, (ec_in 162 rfl rfl), tyX4_ok, nmX4, rfl, rfl, fun h => nomatch h⟩
set_option maxRecDepth 20000 in
theorem lf_X9_199 : ec_fl RX9 199 4 3 := ⟨RX4, TX4, 4, rfl, by decide, uw_4, (ec_in 163 rfl rfl)⟩
set_option maxRecDepth 20000 in
theorem lp_X9_199 : ec_fp RX9 199 4 3 false (tyX4 3) := ⟨RX4, TX4, 4, tyX4, rfl, by decide, uw_4, (ec_in 163 rfl rfl), tyX4_ok, nmX4, rfl, rfl, fun h => nomatch h⟩
set_option maxRecDepth 20000 in
theorem lf_X6_9 : ec_fl RX6 9 6 0 := ⟨RX6, TX6, 2, rfl, by decide, uw_6, (ec_in 185 rfl rfl)⟩
set_option maxRecDepth 20000 in
theorem lp_X6_9 : ec_fp RX6 9 6 0 true (tyX6 0) := ⟨RX6, TX6, 2, tyX6, rfl, by decide, uw_6, (ec_in 185 rfl rfl), tyX6_ok, nmX6, rfl, rfl, fun _ => rfl⟩
set_option maxRecDepth 20000 in
theorem lf_X2_48 : ec_fl RX2 48 6 0 := ⟨RX6, TX6, 2, rfl, by decide, uw_6, (ec_in 186 rfl rfl)⟩
set_option maxRecDepth 20000 in
theorem lf_X6_15 : ec_fl RX6 15 6 1 := ⟨RX6, TX6, 2, rfl, by decide, uw_6, (ec_in 187 rfl rfl)⟩
set_option maxRecDepth 20000 in
theorem lp_X6_15 : ec_fp RX6 15 6 1 true (tyX6 1) := ⟨RX6, TX6, 2, tyX6, rfl, by decide, uw_6, (ec_in 187 rfl rfl), tyX6_ok, nmX6, rfl, rfl, fun _ => rfl⟩
set_option maxRecDepth 20000 in
theorem lf_X2_44 : ec_fl RX2 44 6 1 := ⟨RX6, TX6, 2, rfl, by decide, uw_6, (ec_in 188 rfl rfl)⟩
set_option maxRecDepth 20000 in
theorem lf_X2_12 : ec_fl RX2 12 2 0 := ⟨RX2, TX2, 6, rfl, by decide, uw_2, (ec_in 195 rfl rfl)⟩
set_option maxRecDepth 20000 in
theorem lp_X2_12 : ec_fp RX2 12 2 0 true (tyX2 0) := ⟨RX2, TX2, 6, tyX2, rfl, by decide, uw_2, (ec_in 195 rfl rfl), tyX2_ok, nmX2, rfl, rfl, fun _ => rfl⟩
set_option maxRecDepth 20000 in
theorem lf_X2_18 : ec_fl RX2 18 2 1 := ⟨RX2, TX2, 6, rfl, by decide, uw_2, (ec_in 196 rfl rfl)⟩
set_option maxRecDepth 20000 in
theorem lp_X2_18 : ec_fp RX2 18 2 1 true (tyX2 1) := ⟨RX2, TX2, 6, tyX2, rfl, by decide, uw_2, (ec_in 196 rfl rfl), tyX2_ok, nmX2, rfl, rfl, fun _ => rfl⟩
set_option maxRecDepth 20000 in
theorem lf_X2_22 : ec_fl RX2 22 2 2 := ⟨RX2, TX2, 6, rfl, by decide, uw_2, (ec_in 197 rfl rfl)⟩
set_option maxRecDepth 20000 in
theorem lp_X2_22 : ec_fp RX2 22 2 2 false (tyX2 2) := ⟨RX2, TX2, 6, tyX2, rfl, by decide, uw_2, (ec_in 197 rfl rfl), tyX2_ok, nmX2, rfl, rfl, fun h => nomatch h⟩
set_option maxRecDepth 20000 in
theorem lf_X9_152 : ec_fl RX9 152 2 2 := ⟨RX2, TX2, 6, rfl, by decide, uw_2, (ec_in 198 rfl rfl)⟩
set_option maxRecDepth 20000 in
theorem lp_X9_152 : ec_fp RX9 152 2 2 false (tyX2 2) := ⟨RX2, TX2, 6, tyX2, rfl, by decide, uw_2, (ec_in 198 rfl rfl), tyX2_ok, nmX2, rfl, rfl, fun h => nomatch h⟩
set_option maxRecDepth 20000 in
theorem lf_X2_26 : ec_fl RX2 26 2 3 := ⟨RX2, TX2, 6, rfl, by decide, uw_2, (ec_in 199 rfl rfl)⟩
set_option maxRecDepth 20000 in
theorem lp_X2_26 : ec_fp RX2 26 2 3 false (tyX2 3) := ⟨RX2, TX2, 6, tyX2, rfl, by decide, uw_2, (ec_in 199 rfl rfl), tyX2_ok, nmX2, rfl, rfl, fun h => nomatch h⟩
set_option maxRecDepth 20000 in
theorem lf_X9_155 : ec_fl RX9 155 2 3 := ⟨RX2, TX2, 6, rfl, by decide, uw_2, (ec_in 200 rfl rfl)⟩
set_option maxRecDepth 20000 in
theorem lp_X9_155 : ec_fp RX9 155 2 3 false (tyX2 3) := ⟨RX2, TX2, 6, tyX2, rfl, by decide, uw_2, (ec_in 200 rfl rfl), tyX2_ok, nmX2, rfl, rfl, fun h => nomatch h⟩
set_option maxRecDepth 20000 in
theorem lf_X2_29 : ec_fl RX2 29 2 4 := ⟨RX2, TX2, 6, rfl, by decide, uw_2, (ec_in 201 rfl rfl)⟩
set_option maxRecDepth 20000 in
theorem lp_X2_29 : ec_fp RX2 29 2 4 false (tyX2 4) := ⟨RX2, TX2, 6, tyX2, rfl, by decide, uw_2, (ec_in 201 rfl rfl), tyX2_ok, nmX2, rfl, rfl, fun h => nomatch h⟩
set_option maxRecDepth 20000 in
theorem lf_X9_158 : ec_fl RX9 158 2 4 := ⟨RX2, TX2, 6, rfl, by decide, uw_2, (ec_in 202 rfl rfl)⟩
set_option maxRecDepth 20000 in
theorem lp_X9_158 : ec_fp RX9 158 2 4 false (tyX2 4) := ⟨RX2, TX2, 6, tyX2, rfl, by decide, uw_2, (ec_in 202 rfl rfl), tyX2_ok, nmX2, rfl, rfl, fun h => nomatch h⟩
set_option maxRecDepth 20000 in
theorem lf_X2_32 : ec_fl RX2 32 2 5 := ⟨RX2, TX2, 6, rfl, by decide, uw_2, (ec_in 203 rfl rfl)⟩
set_option maxRecDepth 20000 in
theorem lp_X2_32 : ec_fp RX2 32 2 5 false (tyX2 5) := ⟨RX2, TX2, 6, tyX2, rfl, by decide, uw_2, (ec_in 203 rfl rfl), tyX2_ok, nmX2, rfl, rfl, fun h => nomatch h⟩
set_option maxRecDepth 20000 in
theorem lf_X9_161 : ec_fl RX9 161 2 5 := ⟨RX2, TX2, 6, rfl, by decide, uw_2, (ec_in 204 rfl rfl)⟩
set_option maxRecDepth 20000 in
theorem lp_X9_161 : ec_fp RX9 161 2 5 false (tyX2 5) := ⟨RX2, TX2, 6, tyX2, rfl, by decide, uw_2, (ec_in 204 rfl rfl), tyX2_ok, nmX2, rfl, rfl, fun h => nomatch h⟩
set_option maxRecDepth 20000 in
theorem lf_X0_11 : ec_fl RX0 11 0 0 := ⟨RX0, TX0, 4, rfl, by decide, uw_0, (ec_in 225 rfl rfl)⟩
set_option maxRecDepth 20000 in
theorem lp_X0_11 : ec_fp RX0 11 0 0 true (tyX0 0) := ⟨RX0, TX0, 4, tyX0, rfl, by decide, uw_0, (ec_in 225 rfl rfl), tyX0_ok, nmX0, rfl, rfl, fun _ => rfl⟩
set_option maxRecDepth 20000 in
theorem lf_X0_16 : ec_fl RX0 16 0 1 := ⟨RX0, TX0, 4, rfl, by decide, uw_0, (ec_in 226 rfl rfl)⟩
set_option maxRecDepth 20000 in
theorem lp_X0_16 : ec_fp RX0 16 0 1 true (tyX0 1) := ⟨RX0, TX0, 4, tyX0, rfl, by decide, uw_0, (ec_in 226 rfl rfl), tyX0_ok, nmX0, rfl, rfl, fun _ => rfl⟩
set_option maxRecDepth 20000 in
theorem lf_X0_19 : ec_fl RX0 19 0 2 := ⟨RX0, TX0, 4, rfl, by decide, uw_0, (ec_in 227 rfl rfl)⟩
set_option maxRecDepth 20000 in
theorem lp_X0_19 : ec_fp RX0 19 0 2 true (tyX0 2) := ⟨RX0, TX0, 4, tyX0, rfl, by decide, uw_0, (ec_in 227 rfl rfl), tyX0_ok, nmX0, rfl, rfl, fun _ => rfl⟩
set_option maxRecDepth 20000 in
theorem lf_X0_22 : ec_fl RX0 22 0 3 := ⟨RX0, TX0, 4, rfl, by decide, uw_0, (ec_in 228 rfl rfl)⟩
set_option maxRecDepth 20000 in
theorem lp_X0_22 : ec_fp RX0 22 0 3 true (tyX0 3) := ⟨RX0, TX0, 4, tyX0, rfl, by decide, uw_0, (ec_in 228 rfl rfl), tyX0_ok, nmX0, rfl, rfl, fun _ => rfl⟩
set_option maxRecDepth 20000 in
theorem lf_X9_182 : ec_fl RX9 182 0 3 := ⟨RX0, TX0, 4, rfl, by decide, uw_0, (ec_in 229 rfl rfl)⟩
set_option maxRecDepth 20000 in
theorem lf_X9_10 : ec_fl RX9 10 9 0 := ⟨RX9, TX9, 8, rfl, by decide, uw_9, (ec_in 239 rfl rfl)⟩
set_option maxRecDepth 20000 in
theorem lp_X9_10 : ec_fp RX9 10 9 0 true (tyX9 0) := ⟨RX9, TX9, 8, tyX9, rfl, by decide, uw_9, (ec_in 239 rfl rfl), tyX9_ok, nmX9, rfl, rfl, fun _ => rfl⟩
set_option maxRecDepth 20000 in
theorem lf_X9_19 : ec_fl RX9 19 9 1 := ⟨RX9, TX9, 8, rfl, by decide, uw_9, (ec_in 240 rfl rfl)⟩
set_option maxRecDepth 20000 in
theorem lp_X9_19 : ec_fp RX9 19 9 1 true (tyX9 1) := ⟨RX9, TX9, 8, tyX9, rfl, by decide, uw_9, (ec_in 240 rfl rfl), tyX9_ok, nmX9, rfl, rfl, fun _ => rfl⟩
set_option maxRecDepth 20000 in
theorem lf_X9_26 : ec_fl RX9 26 9 2 := ⟨RX9, TX9, 8, rfl, by decide, uw_9, (ec_in 241 rfl rfl)⟩
set_option maxRecDepth 20000 in
theorem lp_X9_26 : ec_fp RX9 26 9 2 true (tyX9 2) := ⟨RX9, TX9, 8, tyX9, rfl, by decide, uw_9, (ec_in 241 rfl rfl), tyX9_ok, nmX9, rfl, rfl, fun _ => rfl⟩
set_option maxRecDepth 20000 in
theorem lf_X9_33 : ec_fl RX9 33 9 3 := ⟨RX9, TX9, 8, rfl, by decide, uw_9, (ec_in 242 rfl rfl)⟩
set_option maxRecDepth 20000 in
theorem lp_X9_33 : ec_fp RX9 33 9 3 true (tyX9 3) := ⟨RX9, TX9, 8, tyX9, rfl, by decide, uw_9, (ec_in 242 rfl rfl), tyX9_ok, nmX9, rfl, rfl, fun _ => rfl⟩
set_option maxRecDepth 20000 in
theorem lf_X9_42 : ec_fl RX9 42 9 4 := ⟨RX9, TX9, 8, rfl, by decide, uw_9, (ec_in 243 rfl rfl)⟩
set_option maxRecDepth 20000 in
theorem lp_X9_42 : ec_fp RX9 42 9 4 true (tyX9 4) := ⟨RX9, TX9, 8, tyX9, rfl, by decide, uw_9, (ec_in 243 rfl rfl), tyX9_ok, nmX9, rfl, rfl, fun _ => rfl⟩
set_option maxRecDepth 20000 in
theorem lf_X9_49 : ec_fl RX9 49 9 5 := ⟨RX9, TX9, 8, rfl, by decide, uw_9, (ec_in 244 rfl rfl)⟩
set_option maxRecDepth 20000 in
theorem lp_X9_49 : ec_fp RX9 49 9 5 true (tyX9 5) := ⟨RX9, TX9, 8, tyX9, rfl, by decide, uw_9, (ec_in 244 rfl rfl), tyX9_ok, nmX9, rfl, rfl, fun _ => rfl⟩
set_option maxRecDepth 20000 in
theorem lf_X9_56 : ec_fl RX9 56 9 6 := ⟨RX9, TX9, 8, rfl, by decide, uw_9, (ec_in 245 rfl rfl)⟩
set_option maxRecDepth 20000 in
theorem lp_X9_56 : ec_fp RX9 56 9 6 true (tyX9 6) := ⟨RX9, TX9, 8, tyX9, rfl, by decide, uw_9, (ec_in 245 rfl rfl), tyX9_ok, nmX9, rfl, rfl, fun _ => rfl⟩
set_option maxRecDepth 20000 in
theorem lf_X9_63 : ec_fl RX9 63 9 7 := ⟨RX9, TX9, 8, rfl, by decide, uw_9, (ec_in 246 rfl rfl)⟩
set_option maxRecDepth 20000 in
theorem lp_X9_63 : ec_fp RX9 63 9 7 true (tyX9 7) := ⟨RX9, TX9, 8, tyX9, rfl, by decide, uw_9, (ec_in 246 rfl rfl), tyX9_ok, nmX9, rfl, rfl, fun _ => rfl⟩
set_option maxRecDepth 20000 in
theorem lf_X10_62 : ec_fl RX10 62 10 0 := ⟨RX10, TX10, 25, rfl, by decide, uw_10, (ec_in 614 rfl rfl)⟩
set_option maxRecDepth 20000 in
theorem lp_X10_62 : ec_fp RX10 62 10 0 false (tyX10 0) := ⟨RX10, TX10, 25, tyX10, rfl, by decide, uw_10, (ec_in 614 rfl rfl), tyX10_ok, nmX10, rfl, rfl, fun h => nomatch h⟩
set_option maxRecDepth 20000 in
theorem lf_X10_73 : ec_fl RX10 73 10 1 := ⟨RX10, TX10, 25, rfl, by decide, uw_10, (ec_in 615 rfl rfl)⟩
set_option maxRecDepth 20000 in
theorem lp_X10_73 : ec_fp RX10 73 10 1 false (tyX10 1) := ⟨RX10, TX10, 25, tyX10, rfl, by decide, uw_10, (ec_in 615 rfl rfl), tyX10_ok, nmX10, rfl, rfl, fun h => nomatch h⟩
set_option maxRecDepth 20000 in
theorem lf_X10_7 : ec_fl RX10 7 10 2 := ⟨RX10, TX10, 25, rfl, by decide, uw_10, (ec_in 616 rfl rfl)⟩
set_option maxRecDepth 20000 in
theorem lp_X10_7 : ec_fp RX10 7 10 2 true (tyX10 2) := ⟨RX10, TX10, 25, tyX10, rfl, by decide, uw_10, (ec_in 616 rfl rfl), tyX10_ok, nmX10, rfl, rfl, fun _ => rfl⟩
set_option maxRecDepth 20000 in
theorem lf_X10_66 : ec_fl RX10 66 10 3 := ⟨RX10, TX10, 25, rfl, by decide, uw_10, (ec_in 617 rfl rfl)⟩
set_option maxRecDepth 20000 in
theorem lp_X10_66 : ec_fp RX10 66 10 3 false (tyX10 3) := ⟨RX10, TX10, 25, tyX10, rfl, by decide, uw_10, (ec_in 617 rfl rfl), tyX10_ok, nmX10, rfl, rfl, fun h => nomatch h⟩
set_option maxRecDepth 20000 in
theorem lf_X10_13 : ec_fl RX10 13 10 4 := ⟨RX10, TX10, 25, rfl, by decide, uw_10, (ec_in 618 rfl rfl)⟩
set_option maxRecDepth 20000 in
theorem lp_X10_13 : ec_fp RX10 13 10 4 true (tyX10 4) := ⟨RX10, TX10, 25, tyX10, rfl, by decide, uw_10, (ec_in 618 rfl rfl), tyX10_ok, nmX10, rfl, rfl, fun _ => rfl⟩
set_option maxRecDepth 20000 in
theorem lf_X10_16 : ec_fl RX10 16 10 5 := ⟨RX10, TX10, 25, rfl, by decide, uw_10, (ec_in 619 rfl rfl)⟩
set_option maxRecDepth 20000 in
theorem lp_X10_16 : ec_fp RX10 16 10 5 true (tyX10 5) := ⟨RX10, TX10, 25, tyX10, rfl, by decide, uw_10, (ec_in 619 rfl rfl), tyX10_ok, nmX10, rfl, rfl, fun _ => rfl⟩
set_option maxRecDepth 20000 in
theorem lf_X10_19 : ec_fl RX10 19 10 6 := ⟨RX10, TX10, 25, rfl, by decide, uw_10, (ec_in 620 rfl rfl)⟩
set_option maxRecDepth 20000 in
theorem lp_X10_19 : ec_fp RX10 19 10 6 true (tyX10 6) := ⟨RX10, TX10, 25, tyX10, rfl, by decide, uw_10, (ec_in 620 rfl rfl), tyX10_ok, nmX10, rfl, rfl, fun _ => rfl⟩
set_option maxRecDepth 20000 in
theorem lf_X10_22 : ec_fl RX10 22 10 7 := ⟨RX10, TX10, 25, rfl, by decide, uw_10, (ec_in 621 rfl rfl)⟩
set_option maxRecDepth 20000 in
theorem lp_X10_22 : ec_fp RX10 22 10 7 true (tyX10 7) := ⟨RX10, TX10, 25, tyX10, rfl, by decide, uw_10, (ec_in 621 rfl rfl), tyX10_ok, nmX10, rfl, rfl, fun _ => rfl⟩
set_option maxRecDepth 20000 in
theorem lf_X10_25 : ec_fl RX10 25 10 8 := ⟨RX10, TX10, 25, rfl, by decide, uw_10, (ec_in 622 rfl rfl)⟩
set_option maxRecDepth 20000 in
theorem lp_X10_25 : ec_fp RX10 25 10 8 true (tyX10 8) := ⟨RX10, TX10, 25, tyX10, rfl, by decide, uw_10, (ec_in 622 rfl rfl), tyX10_ok, nmX10, rfl, rfl, fun _ => rfl⟩
set_option maxRecDepth 20000 in
theorem lf_X10_136 : ec_fl RX10 136 10 9 := ⟨RX10, TX10, 25, rfl, by decide, uw_10, (ec_in 623 rfl rfl)⟩
set_option maxRecDepth 20000 in
theorem lp_X10_136 : ec_fp RX10 136 10 9 false (tyX10 9) := ⟨RX10, TX10, 25, tyX10, rfl, by decide, uw_10, (ec_in 623 rfl rfl), tyX10_ok, nmX10, rfl, rfl, fun h => nomatch h⟩
set_option maxRecDepth 20000 in
theorem lf_X10_28 : ec_fl RX10 28 10 10 := ⟨RX10, TX10, 25, rfl, by decide, uw_10, (ec_in 624 rfl rfl)⟩
set_option maxRecDepth 20000 in
theorem lp_X10_28 : ec_fp RX10 28 10 10 true (tyX10 10) := ⟨RX10, TX10, 25, tyX10, rfl, by decide, uw_10, (ec_in 624 rfl rfl), tyX10_ok, nmX10, rfl, rfl, fun _ => rfl⟩
set_option maxRecDepth 20000 in
theorem lf_X10_31 : ec_fl RX10 31 10 11 := ⟨RX10, TX10, 25, rfl, by decide, uw_10, (ec_in 625 rfl rfl)⟩
set_option maxRecDepth 20000 in
theorem lp_X10_31 : ec_fp RX10 31 10 11 true (tyX10 11) := ⟨RX10, TX10, 25, tyX10, rfl, by decide, uw_10, (ec_in 625 rfl rfl), tyX10_ok, nmX10, rfl, rfl, fun _ => rfl⟩
set_option maxRecDepth 20000 in
theorem lf_X10_34 : ec_fl RX10 34 10 12 := ⟨RX10, TX10, 25, rfl, by decide, uw_10, (ec_in 626 rfl rfl)⟩
set_option maxRecDepth 20000 in
theorem lp_X10_34 : ec_fp RX10 34 10 12 true (tyX10 12) := ⟨RX10, TX10, 25, tyX10, rfl, by decide, uw_10, (ec_in 626 rfl rfl), tyX10_ok, nmX10, rfl, rfl, fun _ => rfl⟩
set_option maxRecDepth 20000 in
theorem lf_X10_38 : ec_fl RX10 38 10 13 := ⟨RX10, TX10, 25, rfl, by decide, uw_10, (ec_in 627 rfl rfl)⟩
set_option maxRecDepth 20000 in
theorem lp_X10_38 : ec_fp RX10 38 10 13 true (tyX10 13) := ⟨RX10, TX10, 25, tyX10, rfl, by decide, uw_10, (ec_in 627 rfl rfl), tyX10_ok, nmX10, rfl, rfl, fun _ => rfl⟩
set_option maxRecDepth 20000 in
theorem lf_X10_41 : ec_fl RX10 41 10 14 := ⟨RX10, TX10, 25, rfl, by decide, uw_10, (ec_in 628 rfl rfl)⟩
set_option maxRecDepth 20000 in
theorem lp_X10_41 : ec_fp RX10 41 10 14 true (tyX10 14) := ⟨RX10, TX10, 25, tyX10, rfl, by decide, uw_10, (ec_in 628 rfl rfl), tyX10_ok, nmX10, rfl, rfl, fun _ => rfl⟩
set_option maxRecDepth 20000 in
theorem lf_X10_88 : ec_fl RX10 88 10 15 := ⟨RX10, TX10, 25, rfl, by decide, uw_10, (ec_in 629 rfl rfl)⟩
set_option maxRecDepth 20000 in
theorem lp_X10_88 : ec_fp RX10 88 10 15 false (tyX10 15) := ⟨RX10, TX10, 25, tyX10, rfl, by decide, uw_10, (ec_in 629 rfl rfl), tyX10_ok, nmX10, rfl, rfl, fun h => nomatch h⟩
set_option maxRecDepth 20000 in
theorem lf_X10_109 : ec_fl RX10 109 10 16 := ⟨RX10, TX10, 25, rfl, by decide, uw_10, (ec_in 630 rfl rfl)⟩
set_option maxRecDepth 20000 in
theorem lp_X10_109 : ec_fp RX10 109 10 16 false (tyX10 16) := ⟨RX10, TX10, 25, tyX10, rfl, by decide, uw_10, (ec_in 630 rfl rfl), tyX10_ok, nmX10, rfl, rfl, fun h => nomatch h⟩
set_option maxRecDepth 20000 in
theorem lf_X10_44 : ec_fl RX10 44 10 17 := ⟨RX10, TX10, 25, rfl, by decide, uw_10, (ec_in 631 rfl rfl)⟩
set_option maxRecDepth 20000 in
theorem lp_X10_44 : ec_fp RX10 44 10 17 true (tyX10 17) := ⟨RX10, TX10, 25, tyX10, rfl, by decide, uw_10, (ec_in 631 rfl rfl), tyX10_ok, nmX10, rfl, rfl, fun _ => rfl⟩
set_option maxRecDepth 20000 in
theorem lf_X10_47 : ec_fl RX10 47 10 18 := ⟨RX10, TX10, 25, rfl, by decide, uw_10, (ec_in 632 rfl rfl)⟩
set_option maxRecDepth 20000 in
theorem lp_X10_47 : ec_fp RX10 47 10 18 true (tyX10 18) := ⟨RX10, TX10, 25, tyX10, rfl, by decide, uw_10, (ec_in 632 rfl rfl), tyX10_ok, nmX10, rfl, rfl, fun _ => rfl⟩
set_option maxRecDepth 20000 in
theorem lf_X10_119 : ec_fl RX10 119 10 19 := ⟨RX10, TX10, 25, rfl, by decide, uw_10, (ec_in 633 rfl rfl)⟩
set_option maxRecDepth 20000 in
theorem lp_X10_119 : ec_fp RX10 119 10 19 false (tyX10 19) := ⟨RX10, TX10, 25, tyX10, rfl, by decide, uw_10, (ec_in 633 rfl rfl), tyX10_ok, nmX10, rfl, rfl, fun h => nomatch h⟩
set_option maxRecDepth 20000 in
theorem lf_X10_50 : ec_fl RX10 50 10 20 := ⟨RX10, TX10, 25, rfl, by decide, uw_10, (ec_in 634 rfl rfl)⟩
set_option maxRecDepth 20000 in
theorem lp_X10_50 : ec_fp RX10 50 10 20 true (tyX10 20) := ⟨RX10, TX10, 25, tyX10, rfl, by decide, uw_10, (ec_in 634 rfl rfl), tyX10_ok, nmX10, rfl, rfl, fun _ => rfl⟩
set_option maxRecDepth 20000 in
theorem lf_X10_53 : ec_fl RX10 53 10 21 := ⟨RX10, TX10, 25, rfl, by decide, uw_10, (ec_in 635 rfl rfl)⟩
set_option maxRecDepth 20000 in
theorem lp_X10_53 : ec_fp RX10 53 10 21 true (tyX10 21) := ⟨RX10, TX10, 25, tyX10, rfl, by decide, uw_10, (ec_in 635 rfl rfl), tyX10_ok, nmX10, rfl, rfl, fun _ => rfl⟩
set_option maxRecDepth 20000 in
theorem lf_X10_130 : ec_fl RX10 130 10 22 := ⟨RX10, TX10, 25, rfl, by decide, uw_10, (ec_in 636 rfl rfl)⟩
set_option maxRecDepth 20000 in
theorem lp_X10_130 : ec_fp RX10 130 10 22 false (tyX10 22) := ⟨RX10, TX10, 25, tyX10, rfl, by decide, uw_10, (ec_in 636 rfl rfl), tyX10_ok, nmX10, rfl, rfl, fun h => nomatch h⟩
set_option maxRecDepth 20000 in
theorem lf_X10_56 : ec_fl RX10 56 10 23 := ⟨RX10, TX10, 25, rfl, by decide, uw_10, (ec_in 637 rfl rfl)⟩
set_option maxRecDepth 20000 in
theorem lp_X10_56 : ec_fp RX10 56 10 23 true (tyX10 23) := ⟨RX10, TX10, 25, tyX10, rfl, by decide, uw_10, (ec_in 637 rfl rfl), tyX10_ok, nmX10, rfl, rfl, fun _ => rfl⟩
set_option maxRecDepth 20000 in
theorem lf_X10_59 : ec_fl RX10 59 10 24 := ⟨RX10, TX10, 25, rfl, by decide, uw_10, (ec_in 638 rfl rfl)⟩
set_option maxRecDepth 20000 in
theorem lp_X10_59 : ec_fp RX10 59 10 24 true (tyX10 24) := ⟨RX10, TX10, 25, tyX10, rfl, by decide, uw_10, (ec_in 638 rfl rfl), tyX10_ok, nmX10, rfl, rfl, fun _ => rfl⟩
set_option maxRecDepth 20000 in
theorem lc_L_15 : ec_cI RL 15 mX9_init 0 := ⟨⟨(ec_in 20 rfl rfl), (ec_in 1 rfl rfl), wc_X9_init, by decide +kernel, ⟨by decide +kernel, by decide +kernel, by decide +kernel⟩⟩, (ec_in 21 rfl rfl), rfl, rfl⟩
set_option maxRecDepth 20000 in
theorem lo_X9_1 : Cond.methodLink RX9 1 objectInit ∈ ec_tb := (ec_in 23 rfl rfl)
set_option maxRecDepth 20000 in
theorem ln_X9_9 : ec_cN RX9 9 mX5_init 0 "SuggestSpell" := ⟨List.mem_of_getElem? (i := 0) rfl, (ec_in 2 rfl rfl), wc_X5_init, by decide +kernel, ⟨by decide +kernel, by decide +kernel, by decide +kernel⟩, (ec_in 29 rfl rfl), rfl, rfl⟩
set_option maxRecDepth 20000 in
theorem lo_X5_3 : Cond.methodLink RX5 3 objectInit ∈ ec_tb := (ec_in 31 rfl rfl)
set_option maxRecDepth 20000 in
theorem lc_X9_18 : ec_cI RX9 18 mX3_init 0 := ⟨⟨(ec_in 47 rfl rfl), (ec_in 3 rfl rfl), wc_X3_init, by decide +kernel, ⟨by decide +kernel, by decide +kernel, by decide +kernel⟩⟩, (ec_in 48 rfl rfl), rfl, rfl⟩
set_option maxRecDepth 20000 in
theorem lo_X3_3 : Cond.methodLink RX3 3 objectInit ∈ ec_tb := (ec_in 50 rfl rfl)
set_option maxRecDepth 20000 in
theorem lc_X3_20 : ec_cS RX3 20 mJ7_fill_53178 2 := ⟨⟨(ec_in 53 rfl rfl), (ec_in 4 rfl rfl), wc_J7_fill_53178, by decide +kernel, ⟨by decide +kernel, by decide +kernel, by decide +kernel⟩⟩, (ec_in 54 rfl rfl)⟩
set_option maxRecDepth 20000 in
theorem lc_X9_25 : ec_cI RX9 25 mX8_init 0 := ⟨⟨(ec_in 68 rfl rfl), (ec_in 5 rfl rfl), wc_X8_init, by decide +kernel, ⟨by decide +kernel, by decide +kernel, by decide +kernel⟩⟩, (ec_in 69 rfl rfl), rfl, rfl⟩
set_option maxRecDepth 20000 in
theorem lo_X8_3 : Cond.methodLink RX8 3 objectInit ∈ ec_tb := (ec_in 71 rfl rfl)
set_option maxRecDepth 20000 in
theorem ln_X8_32 : ec_cN RX8 32 mX5_init 0 "SuggestSpell" := ⟨List.mem_of_getElem? (i := 1) rfl, (ec_in 2 rfl rfl), wc_X5_init, by decide +kernel, ⟨by decide +kernel, by decide +kernel, by decide +kernel⟩, (ec_in 29 rfl rfl), rfl, rfl⟩
set_option maxRecDepth 20000 in
theorem lc_X9_32 : ec_cI RX9 32 mX1_init 0 := ⟨⟨(ec_in 104 rfl rfl), (ec_in 6 rfl rfl), wc_X1_init, by decide +kernel, ⟨by decide +kernel, by decide +kernel, by decide +kernel⟩⟩, (ec_in 105 rfl rfl), rfl, rfl⟩
set_option maxRecDepth 20000 in
theorem lo_X1_3 : Cond.methodLink RX1 3 objectInit ∈ ec_tb := (ec_in 107 rfl rfl)
set_option maxRecDepth 20000 in
theorem ln_X1_21 : ec_cN RX1 21 mX5_init 0 "SuggestSpell" := ⟨List.mem_of_getElem? (i := 2) rfl, (ec_in 2 rfl rfl), wc_X5_init, by decide +kernel, ⟨by decide +kernel, by decide +kernel, by decide +kernel⟩, (ec_in 29 rfl rfl), rfl, rfl⟩
set_option maxRecDepth 20000 in
theorem lc_X9_39 : ec_cI RX9 39 mX7_init 1 := ⟨⟨(ec_in 122 rfl rfl), (ec_in 7 rfl rfl), wc_X7_init, by decide +kernel, ⟨by decide +kernel, by decide +kernel, by decide +kernel⟩⟩, (ec_in 123 rfl rfl), rfl, rfl⟩
set_option maxRecDepth 20000 in
theorem lo_X7_3 : Cond.methodLink RX7 3 objectInit ∈ ec_tb := (ec_in 125 rfl rfl)
set_option maxRecDepth 20000 in
theorem ln_X7_11 : ec_cN RX7 11 mX5_init 0 "SuggestSpell" := ⟨List.mem_of_getElem? (i := 3) rfl, (ec_in 2 rfl rfl), wc_X5_init, by decide +kernel, ⟨by decide +kernel, by decide +kernel, by decide +kernel⟩, (ec_in 29 rfl rfl), rfl, rfl⟩
set_option maxRecDepth 20000 in
theorem ln_X9_48 : ec_cN RX9 48 mX4_init 0 "SuggestSpell" := ⟨List.mem_of_getElem? (i := 4) rfl, (ec_in 8 rfl rfl), wc_X4_init, by decide +kernel, ⟨by decide +kernel, by decide +kernel, by decide +kernel⟩, (ec_in 155 rfl rfl), rfl, rfl⟩
set_option maxRecDepth 20000 in
theorem lo_X4_3 : Cond.methodLink RX4 3 objectInit ∈ ec_tb := (ec_in 157 rfl rfl)
set_option maxRecDepth 20000 in
theorem ln_X9_55 : ec_cN RX9 55 mX2_init 0 "SuggestSpell" := ⟨List.mem_of_getElem? (i := 5) rfl, (ec_in 9 rfl rfl), wc_X2_init, by decide +kernel, ⟨by decide +kernel, by decide +kernel, by decide +kernel⟩, (ec_in 176 rfl rfl), rfl, rfl⟩
set_option maxRecDepth 20000 in
theorem lo_X2_3 : Cond.methodLink RX2 3 objectInit ∈ ec_tb := (ec_in 178 rfl rfl)
set_option maxRecDepth 20000 in
theorem ln_X2_11 : ec_cN RX2 11 mX6_init 0 "SuggestSpell" := ⟨List.mem_of_getElem? (i := 6) rfl, (ec_in 10 rfl rfl), wc_X6_init, by decide +kernel, ⟨by decide +kernel, by decide +kernel, by decide +kernel⟩, (ec_in 182 rfl rfl), rfl, rfl⟩
set_option maxRecDepth 20000 in
theorem lo_X6_3 : Cond.methodLink RX6 3 objectInit ∈ ec_tb := (ec_in 184 rfl rfl)
set_option maxRecDepth 20000 in
theorem ln_X9_62 : ec_cN RX9 62 mX0_init 0 "SuggestSpell" := ⟨List.mem_of_getElem? (i := 7) rfl, (ec_in 11 rfl rfl), wc_X0_init, by decide +kernel, ⟨by decide +kernel, by decide +kernel, by decide +kernel⟩, (ec_in 221 rfl rfl), rfl, rfl⟩
set_option maxRecDepth 20000 in
theorem lo_X0_3 : Cond.methodLink RX0 3 objectInit ∈ ec_tb := (ec_in 223 rfl rfl)
set_option maxRecDepth 20000 in
theorem lc_L_19 : ec_cV RL 19 mX9_letter 1 9 := ⟨⟨(ec_in 264 rfl rfl), (ec_in 1 rfl rfl), wc_X9_letter, by decide +kernel, ⟨by decide +kernel, by decide +kernel, by decide +kernel⟩⟩, (ec_in 265 rfl rfl), (ec_in 266 rfl rfl), TX9, 8, rfl⟩
set_option maxRecDepth 20000 in
theorem lc_X9_67 : ec_cS RX9 67 mX9_isLetter 1 := ⟨⟨(ec_in 268 rfl rfl), (ec_in 1 rfl rfl), wc_X9_isLetter, by decide +kernel, ⟨by decide +kernel, by decide +kernel, by decide +kernel⟩⟩, (ec_in 269 rfl rfl)⟩
set_option maxRecDepth 20000 in
theorem lc_X9_71 : ec_cV RX9 71 mX5_add 1 5 := ⟨⟨(ec_in 271 rfl rfl), (ec_in 2 rfl rfl), wc_X5_add, by decide +kernel, ⟨by decide +kernel, by decide +kernel, by decide +kernel⟩⟩, (ec_in 272 rfl rfl), (ec_in 273 rfl rfl), TX5, 2, rfl⟩
set_option maxRecDepth 20000 in
theorem lc_L_23 : ec_cV RL 23 mX9_clear 0 9 := ⟨⟨(ec_in 275 rfl rfl), (ec_in 1 rfl rfl), wc_X9_clear, by decide +kernel, ⟨by decide +kernel, by decide +kernel, by decide +kernel⟩⟩, (ec_in 276 rfl rfl), (ec_in 277 rfl rfl), TX9, 8, rfl⟩
set_option maxRecDepth 20000 in
theorem lc_L_28 : ec_cV RL 28 mX9_word 1 9 := ⟨⟨(ec_in 279 rfl rfl), (ec_in 1 rfl rfl), wc_X9_word, by decide +kernel, ⟨by decide +kernel, by decide +kernel, by decide +kernel⟩⟩, (ec_in 280 rfl rfl), (ec_in 281 rfl rfl), TX9, 8, rfl⟩
set_option maxRecDepth 20000 in
theorem lc_X9_78 : ec_cS RX9 78 mX9_isCount 1 := ⟨⟨(ec_in 283 rfl rfl), (ec_in 1 rfl rfl), wc_X9_isCount, by decide +kernel, ⟨by decide +kernel, by decide +kernel, by decide +kernel⟩⟩, (ec_in 284 rfl rfl)⟩
set_option maxRecDepth 20000 in
theorem lc_X9_81 : ec_cV RX9 81 mX8_hasRow 1 8 := ⟨⟨(ec_in 286 rfl rfl), (ec_in 5 rfl rfl), wc_X8_hasRow, by decide +kernel, ⟨by decide +kernel, by decide +kernel, by decide +kernel⟩⟩, (ec_in 287 rfl rfl), (ec_in 288 rfl rfl), TX8, 5, rfl⟩
set_option maxRecDepth 20000 in
theorem lc_X8_33 : ec_cV RX8 33 mX5_compareWith 1 5 := ⟨⟨(ec_in 290 rfl rfl), (ec_in 2 rfl rfl), wc_X5_compareWith, by decide +kernel, ⟨by decide +kernel, by decide +kernel, by decide +kernel⟩⟩, (ec_in 291 rfl rfl), (ec_in 292 rfl rfl), TX5, 2, rfl⟩
set_option maxRecDepth 20000 in
theorem lm_X5_23 : Cond.methodLink RX5 23 Lib.Math.min.name ∈ ec_tb := (ec_in 294 rfl rfl)
set_option maxRecDepth 20000 in
theorem lc_X9_88 : ec_cV RX9 88 mX8_add 2 8 := ⟨⟨(ec_in 297 rfl rfl), (ec_in 5 rfl rfl), wc_X8_add, by decide +kernel, ⟨by decide +kernel, by decide +kernel, by decide +kernel⟩⟩, (ec_in 298 rfl rfl), (ec_in 299 rfl rfl), TX8, 5, rfl⟩
set_option maxRecDepth 20000 in
theorem lc_X8_37 : ec_cV RX8 37 mX5_copyOf 1 5 := ⟨⟨(ec_in 301 rfl rfl), (ec_in 2 rfl rfl), wc_X5_copyOf, by decide +kernel, ⟨by decide +kernel, by decide +kernel, by decide +kernel⟩⟩, (ec_in 302 rfl rfl), (ec_in 303 rfl rfl), TX5, 2, rfl⟩
set_option maxRecDepth 20000 in
theorem lc_X5_19 : ec_cV RX5 19 mX5_add 1 5 := ⟨⟨(ec_in 305 rfl rfl), (ec_in 2 rfl rfl), wc_X5_add, by decide +kernel, ⟨by decide +kernel, by decide +kernel, by decide +kernel⟩⟩, (ec_in 272 rfl rfl), (ec_in 273 rfl rfl), TX5, 2, rfl⟩
set_option maxRecDepth 20000 in
theorem lc_L_32 : ec_cV RL 32 mX9_count 2 9 := ⟨⟨(ec_in 306 rfl rfl), (ec_in 1 rfl rfl), wc_X9_count, by decide +kernel, ⟨by decide +kernel, by decide +kernel, by decide +kernel⟩⟩, (ec_in 307 rfl rfl), (ec_in 308 rfl rfl), TX9, 8, rfl⟩
set_option maxRecDepth 20000 in
theorem lc_X9_91 : ec_cV RX9 91 mX8_has 1 8 := ⟨⟨(ec_in 310 rfl rfl), (ec_in 5 rfl rfl), wc_X8_has, by decide +kernel, ⟨by decide +kernel, by decide +kernel, by decide +kernel⟩⟩, (ec_in 311 rfl rfl), (ec_in 312 rfl rfl), TX8, 5, rfl⟩
set_option maxRecDepth 20000 in
theorem lc_L_37 : ec_cV RL 37 mX9_at 2 9 := ⟨⟨(ec_in 314 rfl rfl), (ec_in 1 rfl rfl), wc_X9_at, by decide +kernel, ⟨by decide +kernel, by decide +kernel, by decide +kernel⟩⟩, (ec_in 315 rfl rfl), (ec_in 316 rfl rfl), TX9, 8, rfl⟩
set_option maxRecDepth 20000 in
theorem lc_X9_102 : ec_cV RX9 102 mX8_rankOf 1 8 := ⟨⟨(ec_in 318 rfl rfl), (ec_in 5 rfl rfl), wc_X8_rankOf, by decide +kernel, ⟨by decide +kernel, by decide +kernel, by decide +kernel⟩⟩, (ec_in 319 rfl rfl), (ec_in 320 rfl rfl), TX8, 5, rfl⟩
set_option maxRecDepth 20000 in
theorem lc_L_41 : ec_cV RL 41 mX9_price 2 9 := ⟨⟨(ec_in 322 rfl rfl), (ec_in 1 rfl rfl), wc_X9_price, by decide +kernel, ⟨by decide +kernel, by decide +kernel, by decide +kernel⟩⟩, (ec_in 323 rfl rfl), (ec_in 324 rfl rfl), TX9, 8, rfl⟩
set_option maxRecDepth 20000 in
theorem lc_L_45 : ec_cV RL 45 mX9_near 3 9 := ⟨⟨(ec_in 326 rfl rfl), (ec_in 1 rfl rfl), wc_X9_near, by decide +kernel, ⟨by decide +kernel, by decide +kernel, by decide +kernel⟩⟩, (ec_in 327 rfl rfl), (ec_in 328 rfl rfl), TX9, 8, rfl⟩
set_option maxRecDepth 20000 in
theorem lc_L_50 : ec_cV RL 50 mX9_distance 1 9 := ⟨⟨(ec_in 330 rfl rfl), (ec_in 1 rfl rfl), wc_X9_distance, by decide +kernel, ⟨by decide +kernel, by decide +kernel, by decide +kernel⟩⟩, (ec_in 331 rfl rfl), (ec_in 332 rfl rfl), TX9, 8, rfl⟩
set_option maxRecDepth 20000 in
theorem lc_X9_116 : ec_cV RX9 116 mX9_priceOfWord 1 9 := ⟨⟨(ec_in 334 rfl rfl), (ec_in 1 rfl rfl), wc_X9_priceOfWord, by decide +kernel, ⟨by decide +kernel, by decide +kernel, by decide +kernel⟩⟩, (ec_in 336 rfl rfl), (ec_inS 0 rfl rfl), TX9, 8, rfl⟩
set_option maxRecDepth 20000 in
theorem lc_X9_119 : ec_cV RX9 119 mX7_measure 2 7 := ⟨⟨(ec_in 338 rfl rfl), (ec_in 7 rfl rfl), wc_X7_measure, by decide +kernel, ⟨by decide +kernel, by decide +kernel, by decide +kernel⟩⟩, (ec_in 339 rfl rfl), (ec_in 340 rfl rfl), TX7, 7, rfl⟩
set_option maxRecDepth 20000 in
theorem lc_X7_41 : ec_cV RX7 41 mX5_copyOf 1 5 := ⟨⟨(ec_in 342 rfl rfl), (ec_in 2 rfl rfl), wc_X5_copyOf, by decide +kernel, ⟨by decide +kernel, by decide +kernel, by decide +kernel⟩⟩, (ec_in 302 rfl rfl), (ec_in 303 rfl rfl), TX5, 2, rfl⟩
set_option maxRecDepth 20000 in
theorem lc_X7_45 : ec_cV RX7 45 mX7_fill 0 7 := ⟨⟨(ec_in 343 rfl rfl), (ec_in 7 rfl rfl), wc_X7_fill, by decide +kernel, ⟨by decide +kernel, by decide +kernel, by decide +kernel⟩⟩, (ec_in 345 rfl rfl), (ec_inS 1 rfl rfl), TX7, 7, rfl⟩
set_option maxRecDepth 20000 in
theorem lc_X7_87 : ec_cV RX7 87 mX7_cheapest 2 7 := ⟨⟨(ec_in 347 rfl rfl), (ec_in 7 rfl rfl), wc_X7_cheapest, by decide +kernel, ⟨by decide +kernel, by decide +kernel, by decide +kernel⟩⟩, (ec_in 349 rfl rfl), (ec_inS 2 rfl rfl), TX7, 7, rfl⟩
set_option maxRecDepth 20000 in
theorem lc_X7_65 : ec_cV RX7 65 mX7_byLast 2 7 := ⟨⟨(ec_in 351 rfl rfl), (ec_in 7 rfl rfl), wc_X7_byLast, by decide +kernel, ⟨by decide +kernel, by decide +kernel, by decide +kernel⟩⟩, (ec_in 353 rfl rfl), (ec_inS 3 rfl rfl), TX7, 7, rfl⟩
set_option maxRecDepth 20000 in
theorem lc_X7_90 : ec_cV RX7 90 mX3_ofBecoming 2 3 := ⟨⟨(ec_in 355 rfl rfl), (ec_in 3 rfl rfl), wc_X3_ofBecoming, by decide +kernel, ⟨by decide +kernel, by decide +kernel, by decide +kernel⟩⟩, (ec_in 356 rfl rfl), (ec_in 357 rfl rfl), TX3, 2, rfl⟩
set_option maxRecDepth 20000 in
theorem lm_X7_59 : Cond.methodLink RX7 59 Lib.Math.min.name ∈ ec_tb := (ec_in 359 rfl rfl)
set_option maxRecDepth 20000 in
theorem lc_X7_75 : ec_cV RX7 75 mX7_mayChange 2 7 := ⟨⟨(ec_in 360 rfl rfl), (ec_in 7 rfl rfl), wc_X7_mayChange, by decide +kernel, ⟨by decide +kernel, by decide +kernel, by decide +kernel⟩⟩, (ec_in 362 rfl rfl), (ec_inS 4 rfl rfl), TX7, 7, rfl⟩
set_option maxRecDepth 20000 in
theorem lc_X7_79 : ec_cV RX7 79 mX7_byChange 2 7 := ⟨⟨(ec_in 364 rfl rfl), (ec_in 7 rfl rfl), wc_X7_byChange, by decide +kernel, ⟨by decide +kernel, by decide +kernel, by decide +kernel⟩⟩, (ec_in 366 rfl rfl), (ec_inS 5 rfl rfl), TX7, 7, rfl⟩
set_option maxRecDepth 20000 in
theorem lc_X7_51 : ec_cV RX7 51 mX7_priceOfFirst 1 7 := ⟨⟨(ec_in 368 rfl rfl), (ec_in 7 rfl rfl), wc_X7_priceOfFirst, by decide +kernel, ⟨by decide +kernel, by decide +kernel, by decide +kernel⟩⟩, (ec_in 369 rfl rfl), (ec_in 370 rfl rfl), TX7, 7, rfl⟩
set_option maxRecDepth 20000 in
theorem lc_L_54 : ec_cV RL 54 mX9_begins 1 9 := ⟨⟨(ec_in 373 rfl rfl), (ec_in 1 rfl rfl), wc_X9_begins, by decide +kernel, ⟨by decide +kernel, by decide +kernel, by decide +kernel⟩⟩, (ec_in 374 rfl rfl), (ec_in 375 rfl rfl), TX9, 8, rfl⟩
set_option maxRecDepth 20000 in
theorem lc_X9_123 : ec_cV RX9 123 mX7_leastOfBeginnings 0 7 := ⟨⟨(ec_in 377 rfl rfl), (ec_in 7 rfl rfl), wc_X7_leastOfBeginnings, by decide +kernel, ⟨by decide +kernel, by decide +kernel, by decide +kernel⟩⟩, (ec_in 378 rfl rfl), (ec_in 379 rfl rfl), TX7, 7, rfl⟩
set_option maxRecDepth 20000 in
theorem lc_L_58 : ec_cV RL 58 mX9_edit 2 9 := ⟨⟨(ec_in 381 rfl rfl), (ec_in 1 rfl rfl), wc_X9_edit, by decide +kernel, ⟨by decide +kernel, by decide +kernel, by decide +kernel⟩⟩, (ec_in 382 rfl rfl), (ec_in 383 rfl rfl), TX9, 8, rfl⟩
set_option maxRecDepth 20000 in
theorem lc_X9_127 : ec_cV RX9 127 mX9_findEdits 1 9 := ⟨⟨(ec_in 385 rfl rfl), (ec_in 1 rfl rfl), wc_X9_findEdits, by decide +kernel, ⟨by decide +kernel, by decide +kernel, by decide +kernel⟩⟩, (ec_in 387 rfl rfl), (ec_inS 6 rfl rfl), TX9, 8, rfl⟩
set_option maxRecDepth 20000 in
theorem lc_X9_192 : ec_cV RX9 192 mX7_trace 0 7 := ⟨⟨(ec_in 389 rfl rfl), (ec_in 7 rfl rfl), wc_X7_trace, by decide +kernel, ⟨by decide +kernel, by decide +kernel, by decide +kernel⟩⟩, (ec_in 390 rfl rfl), (ec_in 391 rfl rfl), TX7, 7, rfl⟩
set_option maxRecDepth 20000 in
theorem lc_X7_71 : ec_cV RX7 71 mX7_note 2 7 := ⟨⟨(ec_in 393 rfl rfl), (ec_in 7 rfl rfl), wc_X7_note, by decide +kernel, ⟨by decide +kernel, by decide +kernel, by decide +kernel⟩⟩, (ec_in 395 rfl rfl), (ec_inS 7 rfl rfl), TX7, 7, rfl⟩
set_option maxRecDepth 20000 in
theorem lc_X9_134 : ec_cV RX9 134 mX7_kindOfEdit 1 7 := ⟨⟨(ec_in 397 rfl rfl), (ec_in 7 rfl rfl), wc_X7_kindOfEdit, by decide +kernel, ⟨by decide +kernel, by decide +kernel, by decide +kernel⟩⟩, (ec_in 398 rfl rfl), (ec_in 399 rfl rfl), TX7, 7, rfl⟩
set_option maxRecDepth 20000 in
theorem lc_L_62 : ec_cV RL 62 mX9_place 2 9 := ⟨⟨(ec_in 401 rfl rfl), (ec_in 1 rfl rfl), wc_X9_place, by decide +kernel, ⟨by decide +kernel, by decide +kernel, by decide +kernel⟩⟩, (ec_in 402 rfl rfl), (ec_in 403 rfl rfl), TX9, 8, rfl⟩
set_option maxRecDepth 20000 in
theorem lc_X9_137 : ec_cV RX9 137 mX7_placeOfEdit 1 7 := ⟨⟨(ec_in 405 rfl rfl), (ec_in 7 rfl rfl), wc_X7_placeOfEdit, by decide +kernel, ⟨by decide +kernel, by decide +kernel, by decide +kernel⟩⟩, (ec_in 406 rfl rfl), (ec_in 407 rfl rfl), TX7, 7, rfl⟩
set_option maxRecDepth 20000 in
theorem lc_L_66 : ec_cV RL 66 mX9_suggest 1 9 := ⟨⟨(ec_in 409 rfl rfl), (ec_in 1 rfl rfl), wc_X9_suggest, by decide +kernel, ⟨by decide +kernel, by decide +kernel, by decide +kernel⟩⟩, (ec_in 410 rfl rfl), (ec_in 411 rfl rfl), TX9, 8, rfl⟩
set_option maxRecDepth 20000 in
theorem lc_X9_140 : ec_cV RX9 140 mX9_howMany 2 9 := ⟨⟨(ec_in 413 rfl rfl), (ec_in 1 rfl rfl), wc_X9_howMany, by decide +kernel, ⟨by decide +kernel, by decide +kernel, by decide +kernel⟩⟩, (ec_in 415 rfl rfl), (ec_inS 8 rfl rfl), TX9, 8, rfl⟩
set_option maxRecDepth 20000 in
theorem lc_X9_171 : ec_cS RX9 171 mX9_isLimit 1 := ⟨⟨(ec_in 417 rfl rfl), (ec_in 1 rfl rfl), wc_X9_isLimit, by decide +kernel, ⟨by decide +kernel, by decide +kernel, by decide +kernel⟩⟩, (ec_in 418 rfl rfl)⟩
set_option maxRecDepth 20000 in
theorem lc_X9_195 : ec_cV RX9 195 mX9_rankWords 2 9 := ⟨⟨(ec_in 420 rfl rfl), (ec_in 1 rfl rfl), wc_X9_rankWords, by decide +kernel, ⟨by decide +kernel, by decide +kernel, by decide +kernel⟩⟩, (ec_in 422 rfl rfl), (ec_inS 9 rfl rfl), TX9, 8, rfl⟩
set_option maxRecDepth 20000 in
theorem lc_X9_206 : ec_cV RX9 206 mX4_add 3 4 := ⟨⟨(ec_in 424 rfl rfl), (ec_in 8 rfl rfl), wc_X4_add, by decide +kernel, ⟨by decide +kernel, by decide +kernel, by decide +kernel⟩⟩, (ec_in 425 rfl rfl), (ec_in 426 rfl rfl), TX4, 4, rfl⟩
set_option maxRecDepth 20000 in
theorem lc_X4_25 : ec_cV RX4 25 mX4_isBehind 3 4 := ⟨⟨(ec_in 428 rfl rfl), (ec_in 8 rfl rfl), wc_X4_isBehind, by decide +kernel, ⟨by decide +kernel, by decide +kernel, by decide +kernel⟩⟩, (ec_in 430 rfl rfl), (ec_inS 10 rfl rfl), TX4, 4, rfl⟩
set_option maxRecDepth 20000 in
theorem lc_L_70 : ec_cV RL 70 mX9_suggestion 2 9 := ⟨⟨(ec_in 432 rfl rfl), (ec_in 1 rfl rfl), wc_X9_suggestion, by decide +kernel, ⟨by decide +kernel, by decide +kernel, by decide +kernel⟩⟩, (ec_in 433 rfl rfl), (ec_in 434 rfl rfl), TX9, 8, rfl⟩
set_option maxRecDepth 20000 in
theorem lc_X9_144 : ec_cV RX9 144 mX9_rankedWord 3 9 := ⟨⟨(ec_in 436 rfl rfl), (ec_in 1 rfl rfl), wc_X9_rankedWord, by decide +kernel, ⟨by decide +kernel, by decide +kernel, by decide +kernel⟩⟩, (ec_in 438 rfl rfl), (ec_inS 11 rfl rfl), TX9, 8, rfl⟩
set_option maxRecDepth 20000 in
theorem lc_L_74 : ec_cV RL 74 mX9_endings 1 9 := ⟨⟨(ec_in 440 rfl rfl), (ec_in 1 rfl rfl), wc_X9_endings, by decide +kernel, ⟨by decide +kernel, by decide +kernel, by decide +kernel⟩⟩, (ec_in 441 rfl rfl), (ec_in 442 rfl rfl), TX9, 8, rfl⟩
set_option maxRecDepth 20000 in
theorem lc_L_78 : ec_cV RL 78 mX9_ending 2 9 := ⟨⟨(ec_in 444 rfl rfl), (ec_in 1 rfl rfl), wc_X9_ending, by decide +kernel, ⟨by decide +kernel, by decide +kernel, by decide +kernel⟩⟩, (ec_in 445 rfl rfl), (ec_in 446 rfl rfl), TX9, 8, rfl⟩
set_option maxRecDepth 20000 in
theorem lc_L_82 : ec_cV RL 82 mX9_parting 1 9 := ⟨⟨(ec_in 448 rfl rfl), (ec_in 1 rfl rfl), wc_X9_parting, by decide +kernel, ⟨by decide +kernel, by decide +kernel, by decide +kernel⟩⟩, (ec_in 449 rfl rfl), (ec_in 450 rfl rfl), TX9, 8, rfl⟩
set_option maxRecDepth 20000 in
theorem lc_X9_148 : ec_cV RX9 148 mX2_find 4 2 := ⟨⟨(ec_in 452 rfl rfl), (ec_in 9 rfl rfl), wc_X2_find, by decide +kernel, ⟨by decide +kernel, by decide +kernel, by decide +kernel⟩⟩, (ec_in 453 rfl rfl), (ec_in 454 rfl rfl), TX2, 6, rfl⟩
set_option maxRecDepth 20000 in
theorem lc_X2_35 : ec_cV RX2 35 mX2_fillSides 3 2 := ⟨⟨(ec_in 456 rfl rfl), (ec_in 9 rfl rfl), wc_X2_fillSides, by decide +kernel, ⟨by decide +kernel, by decide +kernel, by decide +kernel⟩⟩, (ec_in 458 rfl rfl), (ec_inS 12 rfl rfl), TX2, 6, rfl⟩
set_option maxRecDepth 20000 in
theorem lc_X2_51 : ec_cV RX2 51 mX6_empty 0 6 := ⟨⟨(ec_in 460 rfl rfl), (ec_in 10 rfl rfl), wc_X6_empty, by decide +kernel, ⟨by decide +kernel, by decide +kernel, by decide +kernel⟩⟩, (ec_in 461 rfl rfl), (ec_in 462 rfl rfl), TX6, 2, rfl⟩
set_option maxRecDepth 20000 in
theorem lc_X6_19 : ec_cS RX6 19 mJ7_fill_53178 2 := ⟨⟨(ec_in 465 rfl rfl), (ec_in 4 rfl rfl), wc_J7_fill_53178, by decide +kernel, ⟨by decide +kernel, by decide +kernel, by decide +kernel⟩⟩, (ec_in 54 rfl rfl)⟩
set_option maxRecDepth 20000 in
theorem lc_X2_66 : ec_cV RX2 66 mX7_measure 2 7 := ⟨⟨(ec_in 466 rfl rfl), (ec_in 7 rfl rfl), wc_X7_measure, by decide +kernel, ⟨by decide +kernel, by decide +kernel, by decide +kernel⟩⟩, (ec_in 339 rfl rfl), (ec_in 340 rfl rfl), TX7, 7, rfl⟩
set_option maxRecDepth 20000 in
theorem lc_X2_72 : ec_cV RX2 72 mX6_offer 3 6 := ⟨⟨(ec_in 467 rfl rfl), (ec_in 10 rfl rfl), wc_X6_offer, by decide +kernel, ⟨by decide +kernel, by decide +kernel, by decide +kernel⟩⟩, (ec_in 468 rfl rfl), (ec_in 469 rfl rfl), TX6, 2, rfl⟩
set_option maxRecDepth 20000 in
theorem lc_X6_25 : ec_cV RX6 25 mX7_priceOfFirst 1 7 := ⟨⟨(ec_in 471 rfl rfl), (ec_in 7 rfl rfl), wc_X7_priceOfFirst, by decide +kernel, ⟨by decide +kernel, by decide +kernel, by decide +kernel⟩⟩, (ec_in 369 rfl rfl), (ec_in 370 rfl rfl), TX7, 7, rfl⟩
set_option maxRecDepth 20000 in
theorem lc_X2_76 : ec_cV RX2 76 mX7_measureMirrored 2 7 := ⟨⟨(ec_in 472 rfl rfl), (ec_in 7 rfl rfl), wc_X7_measureMirrored, by decide +kernel, ⟨by decide +kernel, by decide +kernel, by decide +kernel⟩⟩, (ec_in 473 rfl rfl), (ec_in 474 rfl rfl), TX7, 7, rfl⟩
set_option maxRecDepth 20000 in
theorem lc_X7_55 : ec_cV RX7 55 mX5_mirrorOf 1 5 := ⟨⟨(ec_in 476 rfl rfl), (ec_in 2 rfl rfl), wc_X5_mirrorOf, by decide +kernel, ⟨by decide +kernel, by decide +kernel, by decide +kernel⟩⟩, (ec_in 477 rfl rfl), (ec_in 478 rfl rfl), TX5, 2, rfl⟩
set_option maxRecDepth 20000 in
theorem lc_L_86 : ec_cV RL 86 mX9_token 0 9 := ⟨⟨(ec_in 480 rfl rfl), (ec_in 1 rfl rfl), wc_X9_token, by decide +kernel, ⟨by decide +kernel, by decide +kernel, by decide +kernel⟩⟩, (ec_in 481 rfl rfl), (ec_in 482 rfl rfl), TX9, 8, rfl⟩
set_option maxRecDepth 20000 in
theorem lc_X9_164 : ec_cV RX9 164 mX1_add 1 1 := ⟨⟨(ec_in 484 rfl rfl), (ec_in 6 rfl rfl), wc_X1_add, by decide +kernel, ⟨by decide +kernel, by decide +kernel, by decide +kernel⟩⟩, (ec_in 485 rfl rfl), (ec_in 486 rfl rfl), TX1, 2, rfl⟩
set_option maxRecDepth 20000 in
theorem lc_X1_22 : ec_cV RX1 22 mX5_copyOf 1 5 := ⟨⟨(ec_in 488 rfl rfl), (ec_in 2 rfl rfl), wc_X5_copyOf, by decide +kernel, ⟨by decide +kernel, by decide +kernel, by decide +kernel⟩⟩, (ec_in 302 rfl rfl), (ec_in 303 rfl rfl), TX5, 2, rfl⟩
set_option maxRecDepth 20000 in
theorem lc_L_90 : ec_cV RL 90 mX9_line 0 9 := ⟨⟨(ec_in 489 rfl rfl), (ec_in 1 rfl rfl), wc_X9_line, by decide +kernel, ⟨by decide +kernel, by decide +kernel, by decide +kernel⟩⟩, (ec_in 490 rfl rfl), (ec_in 491 rfl rfl), TX9, 8, rfl⟩
set_option maxRecDepth 20000 in
theorem lc_L_94 : ec_cV RL 94 mX9_pair 3 9 := ⟨⟨(ec_in 493 rfl rfl), (ec_in 1 rfl rfl), wc_X9_pair, by decide +kernel, ⟨by decide +kernel, by decide +kernel, by decide +kernel⟩⟩, (ec_in 494 rfl rfl), (ec_in 495 rfl rfl), TX9, 8, rfl⟩
set_option maxRecDepth 20000 in
theorem lc_X9_167 : ec_cV RX9 167 mX8_setPair 3 8 := ⟨⟨(ec_in 497 rfl rfl), (ec_in 5 rfl rfl), wc_X8_setPair, by decide +kernel, ⟨by decide +kernel, by decide +kernel, by decide +kernel⟩⟩, (ec_in 498 rfl rfl), (ec_in 499 rfl rfl), TX8, 5, rfl⟩
set_option maxRecDepth 20000 in
theorem lc_X8_41 : ec_cV RX8 41 mX8_isPair 2 8 := ⟨⟨(ec_in 501 rfl rfl), (ec_in 5 rfl rfl), wc_X8_isPair, by decide +kernel, ⟨by decide +kernel, by decide +kernel, by decide +kernel⟩⟩, (ec_in 502 rfl rfl), (ec_in 503 rfl rfl), TX8, 5, rfl⟩
set_option maxRecDepth 20000 in
theorem lc_L_99 : ec_cV RL 99 mX9_chosen 2 9 := ⟨⟨(ec_in 505 rfl rfl), (ec_in 1 rfl rfl), wc_X9_chosen, by decide +kernel, ⟨by decide +kernel, by decide +kernel, by decide +kernel⟩⟩, (ec_in 506 rfl rfl), (ec_in 507 rfl rfl), TX9, 8, rfl⟩
set_option maxRecDepth 20000 in
theorem lc_X9_174 : ec_cV RX9 174 mX0_measure 4 0 := ⟨⟨(ec_in 509 rfl rfl), (ec_in 11 rfl rfl), wc_X0_measure, by decide +kernel, ⟨by decide +kernel, by decide +kernel, by decide +kernel⟩⟩, (ec_in 510 rfl rfl), (ec_in 511 rfl rfl), TX0, 4, rfl⟩
set_option maxRecDepth 20000 in
theorem lc_X0_43 : ec_cV RX0 43 mX7_measure 2 7 := ⟨⟨(ec_in 513 rfl rfl), (ec_in 7 rfl rfl), wc_X7_measure, by decide +kernel, ⟨by decide +kernel, by decide +kernel, by decide +kernel⟩⟩, (ec_in 339 rfl rfl), (ec_in 340 rfl rfl), TX7, 7, rfl⟩
set_option maxRecDepth 20000 in
theorem lc_X9_177 : ec_cV RX9 177 mX0_choose 3 0 := ⟨⟨(ec_in 515 rfl rfl), (ec_in 11 rfl rfl), wc_X0_choose, by decide +kernel, ⟨by decide +kernel, by decide +kernel, by decide +kernel⟩⟩, (ec_in 516 rfl rfl), (ec_in 517 rfl rfl), TX0, 4, rfl⟩
set_option maxRecDepth 20000 in
theorem lc_X0_50 : ec_cV RX0 50 mX0_goOn 4 0 := ⟨⟨(ec_in 519 rfl rfl), (ec_in 11 rfl rfl), wc_X0_goOn, by decide +kernel, ⟨by decide +kernel, by decide +kernel, by decide +kernel⟩⟩, (ec_in 521 rfl rfl), (ec_inS 13 rfl rfl), TX0, 4, rfl⟩
set_option maxRecDepth 20000 in
theorem lc_X0_65 : ec_cV RX0 65 mX8_isPair 2 8 := ⟨⟨(ec_in 524 rfl rfl), (ec_in 5 rfl rfl), wc_X8_isPair, by decide +kernel, ⟨by decide +kernel, by decide +kernel, by decide +kernel⟩⟩, (ec_in 502 rfl rfl), (ec_in 503 rfl rfl), TX8, 5, rfl⟩
set_option maxRecDepth 20000 in
theorem lc_X0_54 : ec_cV RX0 54 mX0_cheapestFirst 1 0 := ⟨⟨(ec_in 525 rfl rfl), (ec_in 11 rfl rfl), wc_X0_cheapestFirst, by decide +kernel, ⟨by decide +kernel, by decide +kernel, by decide +kernel⟩⟩, (ec_in 527 rfl rfl), (ec_inS 14 rfl rfl), TX0, 4, rfl⟩
set_option maxRecDepth 20000 in
theorem lc_X0_58 : ec_cV RX0 58 mX0_keepRow 3 0 := ⟨⟨(ec_in 529 rfl rfl), (ec_in 11 rfl rfl), wc_X0_keepRow, by decide +kernel, ⟨by decide +kernel, by decide +kernel, by decide +kernel⟩⟩, (ec_in 531 rfl rfl), (ec_inS 15 rfl rfl), TX0, 4, rfl⟩
-- no row: (Jvm.Cond.methodLink "SuggestSpellLaw" (103 : Nat) ({ cls := "SuggestSpellLaw", name := "share", desc := "(LSuggestSpell
set_option maxRecDepth 20000 in
theorem lc_L_7 : ec_cV RL 7 mX9_share 1 9 := ⟨⟨(ec_in 538 rfl rfl), (ec_in 1 rfl rfl), wc_X9_share, by decide +kernel, ⟨by decide +kernel, by decide +kernel, by decide +kernel⟩⟩, (ec_in 539 rfl rfl), (ec_in 540 rfl rfl), TX9, 8, rfl⟩
-- no row: (Jvm.Cond.methodLink "SuggestSpell" (189 : Nat) ({ cls := "java/lang/ArithmeticException", name := "<init>", desc := "(L
set_option maxRecDepth 20000 in
theorem lc_L_18 : ec_cI RL 18 mX10_init 0 := ⟨⟨(ec_in 610 rfl rfl), (ec_in 12 rfl rfl), wc_X10_init, by decide +kernel, ⟨by decide +kernel, by decide +kernel, by decide +kernel⟩⟩, (ec_in 611 rfl rfl), rfl, rfl⟩
set_option maxRecDepth 20000 in
theorem lo_X10_1 : Cond.methodLink RX10 1 objectInit ∈ ec_tb := (ec_in 613 rfl rfl)
set_option maxRecDepth 20000 in
theorem lc_L_109 : ec_cV RL 109 mX10_thrown 0 10 := ⟨⟨(ec_in 690 rfl rfl), (ec_in 12 rfl rfl), wc_X10_thrown, by decide +kernel, ⟨by decide +kernel, by decide +kernel, by decide +kernel⟩⟩, (ec_in 691 rfl rfl), (ec_in 692 rfl rfl), TX10, 25, rfl⟩
set_option maxRecDepth 20000 in
theorem lc_L_22 : ec_cV RL 22 mX10_letter 1 10 := ⟨⟨(ec_in 694 rfl rfl), (ec_in 12 rfl rfl), wc_X10_letter, by decide +kernel, ⟨by decide +kernel, by decide +kernel, by decide +kernel⟩⟩, (ec_in 695 rfl rfl), (ec_in 696 rfl rfl), TX10, 25, rfl⟩
set_option maxRecDepth 20000 in
theorem lc_X10_69 : ec_cS RX10 69 mX10_in 3 := ⟨⟨(ec_in 698 rfl rfl), (ec_in 12 rfl rfl), wc_X10_in, by decide +kernel, ⟨by decide +kernel, by decide +kernel, by decide +kernel⟩⟩, (ec_in 699 rfl rfl)⟩
set_option maxRecDepth 20000 in
theorem lc_L_27 : ec_cV RL 27 mX10_clear 0 10 := ⟨⟨(ec_in 701 rfl rfl), (ec_in 12 rfl rfl), wc_X10_clear, by decide +kernel, ⟨by decide +kernel, by decide +kernel, by decide +kernel⟩⟩, (ec_in 702 rfl rfl), (ec_in 703 rfl rfl), TX10, 25, rfl⟩
set_option maxRecDepth 20000 in
theorem lc_L_31 : ec_cV RL 31 mX10_word 1 10 := ⟨⟨(ec_in 705 rfl rfl), (ec_in 12 rfl rfl), wc_X10_word, by decide +kernel, ⟨by decide +kernel, by decide +kernel, by decide +kernel⟩⟩, (ec_in 706 rfl rfl), (ec_in 707 rfl rfl), TX10, 25, rfl⟩
set_option maxRecDepth 20000 in
theorem lc_L_36 : ec_cV RL 36 mX10_count 2 10 := ⟨⟨(ec_in 709 rfl rfl), (ec_in 12 rfl rfl), wc_X10_count, by decide +kernel, ⟨by decide +kernel, by decide +kernel, by decide +kernel⟩⟩, (ec_in 710 rfl rfl), (ec_in 711 rfl rfl), TX10, 25, rfl⟩
set_option maxRecDepth 20000 in
theorem lc_X10_76 : ec_cV RX10 76 mX10_isWord 1 10 := ⟨⟨(ec_in 713 rfl rfl), (ec_in 12 rfl rfl), wc_X10_isWord, by decide +kernel, ⟨by decide +kernel, by decide +kernel, by decide +kernel⟩⟩, (ec_in 715 rfl rfl), (ec_inS 17 rfl rfl), TX10, 25, rfl⟩
set_option maxRecDepth 20000 in
theorem lc_L_40 : ec_cV RL 40 mX10_at 2 10 := ⟨⟨(ec_in 717 rfl rfl), (ec_in 12 rfl rfl), wc_X10_at, by decide +kernel, ⟨by decide +kernel, by decide +kernel, by decide +kernel⟩⟩, (ec_in 718 rfl rfl), (ec_in 719 rfl rfl), TX10, 25, rfl⟩
set_option maxRecDepth 20000 in
theorem lc_X10_84 : ec_cV RX10 84 mX10_rank 1 10 := ⟨⟨(ec_in 721 rfl rfl), (ec_in 12 rfl rfl), wc_X10_rank, by decide +kernel, ⟨by decide +kernel, by decide +kernel, by decide +kernel⟩⟩, (ec_in 723 rfl rfl), (ec_inS 18 rfl rfl), TX10, 25, rfl⟩
set_option maxRecDepth 20000 in
theorem lc_X10_80 : ec_cV RX10 80 mX10_isAhead 2 10 := ⟨⟨(ec_in 725 rfl rfl), (ec_in 12 rfl rfl), wc_X10_isAhead, by decide +kernel, ⟨by decide +kernel, by decide +kernel, by decide +kernel⟩⟩, (ec_in 727 rfl rfl), (ec_inS 19 rfl rfl), TX10, 25, rfl⟩
set_option maxRecDepth 20000 in
theorem lc_L_44 : ec_cV RL 44 mX10_price 2 10 := ⟨⟨(ec_in 729 rfl rfl), (ec_in 12 rfl rfl), wc_X10_price, by decide +kernel, ⟨by decide +kernel, by decide +kernel, by decide +kernel⟩⟩, (ec_in 730 rfl rfl), (ec_in 731 rfl rfl), TX10, 25, rfl⟩
set_option maxRecDepth 20000 in
theorem lc_L_49 : ec_cV RL 49 mX10_near 3 10 := ⟨⟨(ec_in 733 rfl rfl), (ec_in 12 rfl rfl), wc_X10_near, by decide +kernel, ⟨by decide +kernel, by decide +kernel, by decide +kernel⟩⟩, (ec_in 734 rfl rfl), (ec_in 735 rfl rfl), TX10, 25, rfl⟩
set_option maxRecDepth 20000 in
theorem lc_L_53 : ec_cV RL 53 mX10_distance 1 10 := ⟨⟨(ec_in 737 rfl rfl), (ec_in 12 rfl rfl), wc_X10_distance, by decide +kernel, ⟨by decide +kernel, by decide +kernel, by decide +kernel⟩⟩, (ec_in 738 rfl rfl), (ec_in 739 rfl rfl), TX10, 25, rfl⟩
set_option maxRecDepth 20000 in
theorem lc_X10_102 : ec_cV RX10 102 mX10_takeTyped 2 10 := ⟨⟨(ec_in 741 rfl rfl), (ec_in 12 rfl rfl), wc_X10_takeTyped, by decide +kernel, ⟨by decide +kernel, by decide +kernel, by decide +kernel⟩⟩, (ec_in 743 rfl rfl), (ec_inS 20 rfl rfl), TX10, 25, rfl⟩
set_option maxRecDepth 20000 in
theorem lc_X10_99 : ec_cV RX10 99 mX10_fill 1 10 := ⟨⟨(ec_in 745 rfl rfl), (ec_in 12 rfl rfl), wc_X10_fill, by decide +kernel, ⟨by decide +kernel, by decide +kernel, by decide +kernel⟩⟩, (ec_in 747 rfl rfl), (ec_inS 21 rfl rfl), TX10, 25, rfl⟩
set_option maxRecDepth 20000 in
theorem lc_X10_92 : ec_cV RX10 92 mX10_becomes 2 10 := ⟨⟨(ec_in 750 rfl rfl), (ec_in 12 rfl rfl), wc_X10_becomes, by decide +kernel, ⟨by decide +kernel, by decide +kernel, by decide +kernel⟩⟩, (ec_in 752 rfl rfl), (ec_inS 22 rfl rfl), TX10, 25, rfl⟩
set_option maxRecDepth 20000 in
theorem lc_X10_96 : ec_cV RX10 96 mX10_isTurned 3 10 := ⟨⟨(ec_in 754 rfl rfl), (ec_in 12 rfl rfl), wc_X10_isTurned, by decide +kernel, ⟨by decide +kernel, by decide +kernel, by decide +kernel⟩⟩, (ec_in 756 rfl rfl), (ec_inS 23 rfl rfl), TX10, 25, rfl⟩
set_option maxRecDepth 20000 in
theorem lc_L_57 : ec_cV RL 57 mX10_begins 1 10 := ⟨⟨(ec_in 758 rfl rfl), (ec_in 12 rfl rfl), wc_X10_begins, by decide +kernel, ⟨by decide +kernel, by decide +kernel, by decide +kernel⟩⟩, (ec_in 759 rfl rfl), (ec_in 760 rfl rfl), TX10, 25, rfl⟩
set_option maxRecDepth 20000 in
theorem lc_X10_106 : ec_cV RX10 106 mX10_beginsBy 1 10 := ⟨⟨(ec_in 762 rfl rfl), (ec_in 12 rfl rfl), wc_X10_beginsBy, by decide +kernel, ⟨by decide +kernel, by decide +kernel, by decide +kernel⟩⟩, (ec_in 764 rfl rfl), (ec_inS 24 rfl rfl), TX10, 25, rfl⟩
set_option maxRecDepth 20000 in
theorem lc_L_61 : ec_cV RL 61 mX10_edit 2 10 := ⟨⟨(ec_in 766 rfl rfl), (ec_in 12 rfl rfl), wc_X10_edit, by decide +kernel, ⟨by decide +kernel, by decide +kernel, by decide +kernel⟩⟩, (ec_in 767 rfl rfl), (ec_in 768 rfl rfl), TX10, 25, rfl⟩
set_option maxRecDepth 20000 in
theorem lc_X10_115 : ec_cV RX10 115 mX10_find 1 10 := ⟨⟨(ec_in 770 rfl rfl), (ec_in 12 rfl rfl), wc_X10_find, by decide +kernel, ⟨by decide +kernel, by decide +kernel, by decide +kernel⟩⟩, (ec_in 772 rfl rfl), (ec_inS 25 rfl rfl), TX10, 25, rfl⟩
set_option maxRecDepth 20000 in
theorem lc_X10_112 : ec_cV RX10 112 mX10_note 2 10 := ⟨⟨(ec_in 774 rfl rfl), (ec_in 12 rfl rfl), wc_X10_note, by decide +kernel, ⟨by decide +kernel, by decide +kernel, by decide +kernel⟩⟩, (ec_in 776 rfl rfl), (ec_inS 26 rfl rfl), TX10, 25, rfl⟩
set_option maxRecDepth 20000 in
theorem lc_L_65 : ec_cV RL 65 mX10_place 2 10 := ⟨⟨(ec_in 778 rfl rfl), (ec_in 12 rfl rfl), wc_X10_place, by decide +kernel, ⟨by decide +kernel, by decide +kernel, by decide +kernel⟩⟩, (ec_in 779 rfl rfl), (ec_in 780 rfl rfl), TX10, 25, rfl⟩
set_option maxRecDepth 20000 in
theorem lc_L_69 : ec_cV RL 69 mX10_suggest 1 10 := ⟨⟨(ec_in 782 rfl rfl), (ec_in 12 rfl rfl), wc_X10_suggest, by decide +kernel, ⟨by decide +kernel, by decide +kernel, by decide +kernel⟩⟩, (ec_in 783 rfl rfl), (ec_in 784 rfl rfl), TX10, 25, rfl⟩
set_option maxRecDepth 20000 in
theorem lc_X10_126 : ec_cV RX10 126 mX10_look 2 10 := ⟨⟨(ec_in 786 rfl rfl), (ec_in 12 rfl rfl), wc_X10_look, by decide +kernel, ⟨by decide +kernel, by decide +kernel, by decide +kernel⟩⟩, (ec_in 788 rfl rfl), (ec_inS 27 rfl rfl), TX10, 25, rfl⟩
set_option maxRecDepth 20000 in
theorem lc_X10_122 : ec_cV RX10 122 mX10_isBefore 4 10 := ⟨⟨(ec_in 790 rfl rfl), (ec_in 12 rfl rfl), wc_X10_isBefore, by decide +kernel, ⟨by decide +kernel, by decide +kernel, by decide +kernel⟩⟩, (ec_in 792 rfl rfl), (ec_inS 28 rfl rfl), TX10, 25, rfl⟩
set_option maxRecDepth 20000 in
theorem lc_L_73 : ec_cV RL 73 mX10_suggestion 2 10 := ⟨⟨(ec_in 794 rfl rfl), (ec_in 12 rfl rfl), wc_X10_suggestion, by decide +kernel, ⟨by decide +kernel, by decide +kernel, by decide +kernel⟩⟩, (ec_in 795 rfl rfl), (ec_in 796 rfl rfl), TX10, 25, rfl⟩
set_option maxRecDepth 20000 in
theorem lc_L_77 : ec_cV RL 77 mX10_endings 1 10 := ⟨⟨(ec_in 798 rfl rfl), (ec_in 12 rfl rfl), wc_X10_endings, by decide +kernel, ⟨by decide +kernel, by decide +kernel, by decide +kernel⟩⟩, (ec_in 799 rfl rfl), (ec_in 800 rfl rfl), TX10, 25, rfl⟩
set_option maxRecDepth 20000 in
theorem lc_L_81 : ec_cV RL 81 mX10_ending 2 10 := ⟨⟨(ec_in 802 rfl rfl), (ec_in 12 rfl rfl), wc_X10_ending, by decide +kernel, ⟨by decide +kernel, by decide +kernel, by decide +kernel⟩⟩, (ec_in 803 rfl rfl), (ec_in 804 rfl rfl), TX10, 25, rfl⟩
set_option maxRecDepth 20000 in
theorem lc_L_85 : ec_cV RL 85 mX10_parting 1 10 := ⟨⟨(ec_in 806 rfl rfl), (ec_in 12 rfl rfl), wc_X10_parting, by decide +kernel, ⟨by decide +kernel, by decide +kernel, by decide +kernel⟩⟩, (ec_in 807 rfl rfl), (ec_in 808 rfl rfl), TX10, 25, rfl⟩
set_option maxRecDepth 20000 in
theorem lc_X10_133 : ec_cV RX10 133 mX10_side 2 10 := ⟨⟨(ec_in 810 rfl rfl), (ec_in 12 rfl rfl), wc_X10_side, by decide +kernel, ⟨by decide +kernel, by decide +kernel, by decide +kernel⟩⟩, (ec_in 812 rfl rfl), (ec_inS 29 rfl rfl), TX10, 25, rfl⟩
set_option maxRecDepth 20000 in
theorem lc_L_89 : ec_cV RL 89 mX10_token 0 10 := ⟨⟨(ec_in 814 rfl rfl), (ec_in 12 rfl rfl), wc_X10_token, by decide +kernel, ⟨by decide +kernel, by decide +kernel, by decide +kernel⟩⟩, (ec_in 815 rfl rfl), (ec_in 816 rfl rfl), TX10, 25, rfl⟩
set_option maxRecDepth 20000 in
theorem lc_L_93 : ec_cV RL 93 mX10_line 0 10 := ⟨⟨(ec_in 818 rfl rfl), (ec_in 12 rfl rfl), wc_X10_line, by decide +kernel, ⟨by decide +kernel, by decide +kernel, by decide +kernel⟩⟩, (ec_in 819 rfl rfl), (ec_in 820 rfl rfl), TX10, 25, rfl⟩
set_option maxRecDepth 20000 in
theorem lc_L_98 : ec_cV RL 98 mX10_pair 3 10 := ⟨⟨(ec_in 822 rfl rfl), (ec_in 12 rfl rfl), wc_X10_pair, by decide +kernel, ⟨by decide +kernel, by decide +kernel, by decide +kernel⟩⟩, (ec_in 823 rfl rfl), (ec_in 824 rfl rfl), TX10, 25, rfl⟩
set_option maxRecDepth 20000 in
theorem lc_L_102 : ec_cV RL 102 mX10_chosen 2 10 := ⟨⟨(ec_in 826 rfl rfl), (ec_in 12 rfl rfl), wc_X10_chosen, by decide +kernel, ⟨by decide +kernel, by decide +kernel, by decide +kernel⟩⟩, (ec_in 827 rfl rfl), (ec_in 828 rfl rfl), TX10, 25, rfl⟩
set_option maxRecDepth 20000 in
theorem lc_X10_139 : ec_cV RX10 139 mX10_nextTo 2 10 := ⟨⟨(ec_in 830 rfl rfl), (ec_in 12 rfl rfl), wc_X10_nextTo, by decide +kernel, ⟨by decide +kernel, by decide +kernel, by decide +kernel⟩⟩, (ec_in 832 rfl rfl), (ec_inS 30 rfl rfl), TX10, 25, rfl⟩
set_option maxRecDepth 20000 in
theorem lc_L_108 : ec_cV RL 108 mX10_share 1 10 := ⟨⟨(ec_in 834 rfl rfl), (ec_in 12 rfl rfl), wc_X10_share, by decide +kernel, ⟨by decide +kernel, by decide +kernel, by decide +kernel⟩⟩, (ec_in 835 rfl rfl), (ec_in 836 rfl rfl), TX10, 25, rfl⟩
set_option maxRecDepth 20000 in
theorem lk_X2_21 : Jvm.Cond.constant RX2 21 1000000 ∈ ec_tb := (ec_in 194 rfl rfl)
set_option maxRecDepth 20000 in
theorem lk_X7_58 : Jvm.Cond.constant RX7 58 1000000 ∈ ec_tb := (ec_in 372 rfl rfl)
set_option maxRecDepth 20000 in
theorem lk_X6_18 : Jvm.Cond.constant RX6 18 1000000 ∈ ec_tb := (ec_in 464 rfl rfl)
set_option maxRecDepth 20000 in
theorem lk_X0_49 : Jvm.Cond.constant RX0 49 1000000 ∈ ec_tb := (ec_in 514 rfl rfl)
set_option maxRecDepth 20000 in
theorem lk_X0_64 : Jvm.Cond.constant RX0 64 2147483647 ∈ ec_tb := (ec_in 523 rfl rfl)
set_option maxRecDepth 20000 in
theorem lk_X9_181 : Jvm.Cond.constant RX9 181 1000000 ∈ ec_tb := (ec_in 533 rfl rfl)
set_option maxRecDepth 20000 in
theorem lk_X10_91 : Jvm.Cond.constant RX10 91 100000 ∈ ec_tb := (ec_in 749 rfl rfl)
set_option maxRecDepth 20000 in
theorem lw_L_8 : Cond.classLink RL 8 RX9 ∈ ec_tb := (ec_in 18 rfl rfl)
set_option maxRecDepth 20000 in
theorem ld_L_8 : ec_cn RL 8 9 8 [.null, .null, .null, .null, .null, .null, .null, .null] := ⟨RX9, TX9, tyX9, rfl, uw_9, tyX9_ok, by decide +kernel, lw_L_8, (ec_in 19 rfl rfl), (ec_in 1 rfl rfl)⟩
set_option maxRecDepth 20000 in
theorem lw_X9_7 : Cond.classLink RX9 7 RX5 ∈ ec_tb := (ec_in 26 rfl rfl)
set_option maxRecDepth 20000 in
theorem ld_X9_7 : ec_cn RX9 7 5 2 [.null, .int 0] := ⟨RX5, TX5, tyX5, rfl, uw_5, tyX5_ok, by decide +kernel, lw_X9_7, (ec_in 27 rfl rfl), (ec_in 2 rfl rfl)⟩
set_option maxRecDepth 20000 in
theorem lw_X9_16 : Cond.classLink RX9 16 RX3 ∈ ec_tb := (ec_in 45 rfl rfl)
set_option maxRecDepth 20000 in
theorem ld_X9_16 : ec_cn RX9 16 3 2 [.null, .null] := ⟨RX3, TX3, tyX3, rfl, uw_3, tyX3_ok, by decide +kernel, lw_X9_16, (ec_in 46 rfl rfl), (ec_in 3 rfl rfl)⟩
set_option maxRecDepth 20000 in
theorem lw_X3_15 : Cond.classLink RX3 15 "[[I" ∈ ec_tb := (ec_in 51 rfl rfl)
set_option maxRecDepth 20000 in
theorem lw_X9_23 : Cond.classLink RX9 23 RX8 ∈ ec_tb := (ec_in 66 rfl rfl)
set_option maxRecDepth 20000 in
theorem ld_X9_23 : ec_cn RX9 23 8 5 [.null, .null, .null, .null, .int 0] := ⟨RX8, TX8, tyX8, rfl, uw_8, tyX8_ok, by decide +kernel, lw_X9_23, (ec_in 67 rfl rfl), (ec_in 5 rfl rfl)⟩
set_option maxRecDepth 20000 in
theorem lw_X8_9 : Cond.classLink RX8 9 RX5 ∈ ec_tb := (ec_in 72 rfl rfl)
set_option maxRecDepth 20000 in
theorem ld_X8_9 : ec_cn RX8 9 5 2 [.null, .int 0] := ⟨RX5, TX5, tyX5, rfl, uw_5, tyX5_ok, by decide +kernel, lw_X8_9, (ec_in 27 rfl rfl), (ec_in 2 rfl rfl)⟩
set_option maxRecDepth 20000 in
theorem lw_X9_30 : Cond.classLink RX9 30 RX1 ∈ ec_tb := (ec_in 102 rfl rfl)
set_option maxRecDepth 20000 in
theorem ld_X9_30 : ec_cn RX9 30 1 2 [.null, .int 0] := ⟨RX1, TX1, tyX1, rfl, uw_1, tyX1_ok, by decide +kernel, lw_X9_30, (ec_in 103 rfl rfl), (ec_in 6 rfl rfl)⟩
set_option maxRecDepth 20000 in
theorem lw_X1_9 : Cond.classLink RX1 9 RX5 ∈ ec_tb := (ec_in 108 rfl rfl)
set_option maxRecDepth 20000 in
theorem ld_X1_9 : ec_cn RX1 9 5 2 [.null, .int 0] := ⟨RX5, TX5, tyX5, rfl, uw_5, tyX5_ok, by decide +kernel, lw_X1_9, (ec_in 27 rfl rfl), (ec_in 2 rfl rfl)⟩
set_option maxRecDepth 20000 in
theorem lw_X9_37 : Cond.classLink RX9 37 RX7 ∈ ec_tb := (ec_in 120 rfl rfl)
set_option maxRecDepth 20000 in
theorem ld_X9_37 : ec_cn RX9 37 7 7 [.null, .null, .null, .null, .null, .null, .int 0] := ⟨RX7, TX7, tyX7, rfl, uw_7, tyX7_ok, by decide +kernel, lw_X9_37, (ec_in 121 rfl rfl), (ec_in 7 rfl rfl)⟩
set_option maxRecDepth 20000 in
theorem lw_X7_9 : Cond.classLink RX7 9 RX5 ∈ ec_tb := (ec_in 126 rfl rfl)
set_option maxRecDepth 20000 in
theorem ld_X7_9 : ec_cn RX7 9 5 2 [.null, .int 0] := ⟨RX5, TX5, tyX5, rfl, uw_5, tyX5_ok, by decide +kernel, lw_X7_9, (ec_in 27 rfl rfl), (ec_in 2 rfl rfl)⟩
set_option maxRecDepth 20000 in
theorem lw_X7_21 : Cond.classLink RX7 21 "[[I" ∈ ec_tb := (ec_in 128 rfl rfl)
set_option maxRecDepth 20000 in
theorem lw_X9_46 : Cond.classLink RX9 46 RX4 ∈ ec_tb := (ec_in 152 rfl rfl)
set_option maxRecDepth 20000 in
theorem ld_X9_46 : ec_cn RX9 46 4 4 [.null, .null, .null, .int 0] := ⟨RX4, TX4, tyX4, rfl, uw_4, tyX4_ok, by decide +kernel, lw_X9_46, (ec_in 153 rfl rfl), (ec_in 8 rfl rfl)⟩
set_option maxRecDepth 20000 in
theorem lw_X9_53 : Cond.classLink RX9 53 RX2 ∈ ec_tb := (ec_in 173 rfl rfl)
set_option maxRecDepth 20000 in
theorem ld_X9_53 : ec_cn RX9 53 2 6 [.null, .null, .int 0, .int 0, .int 0, .int 0] := ⟨RX2, TX2, tyX2, rfl, uw_2, tyX2_ok, by decide +kernel, lw_X9_53, (ec_in 174 rfl rfl), (ec_in 9 rfl rfl)⟩
set_option maxRecDepth 20000 in
theorem lw_X2_9 : Cond.classLink RX2 9 RX6 ∈ ec_tb := (ec_in 179 rfl rfl)
set_option maxRecDepth 20000 in
theorem ld_X2_9 : ec_cn RX2 9 6 2 [.null, .null] := ⟨RX6, TX6, tyX6, rfl, uw_6, tyX6_ok, by decide +kernel, lw_X2_9, (ec_in 180 rfl rfl), (ec_in 10 rfl rfl)⟩
set_option maxRecDepth 20000 in
theorem lw_X9_60 : Cond.classLink RX9 60 RX0 ∈ ec_tb := (ec_in 218 rfl rfl)
set_option maxRecDepth 20000 in
theorem ld_X9_60 : ec_cn RX9 60 0 4 [.null, .null, .null, .null] := ⟨RX0, TX0, tyX0, rfl, uw_0, tyX0_ok, by decide +kernel, lw_X9_60, (ec_in 219 rfl rfl), (ec_in 11 rfl rfl)⟩
set_option maxRecDepth 20000 in
theorem lw_X0_9 : Cond.classLink RX0 9 "[[I" ∈ ec_tb := (ec_in 224 rfl rfl)
set_option maxRecDepth 20000 in
theorem lw_L_13 : Cond.classLink RL 13 "java/lang/ArithmeticException" ∈ ec_tb := (ec_in 537 rfl rfl)
set_option maxRecDepth 20000 in
theorem lw_X9_185 : Cond.classLink RX9 185 "java/lang/ArithmeticException" ∈ ec_tb := (ec_in 542 rfl rfl)
set_option maxRecDepth 20000 in
theorem lw_L_16 : Cond.classLink RL 16 RX10 ∈ ec_tb := (ec_in 608 rfl rfl)
set_option maxRecDepth 20000 in
theorem ld_L_16 : ec_cn RL 16 10 25 [.int 0, .int 0, .null, .int 0, .null, .null, .null, .null, .null, .int 0, .null, .null, .null, .null, .null, .int 0, .int 0, .null, .null, .int 0, .null, .null, .int 0, .null, .null] := ⟨RX10, TX10, tyX10, rfl, uw_10, tyX10_ok, by decide +kernel, lw_L_16, (ec_in 609 rfl rfl), (ec_in 12 rfl rfl)⟩
set_option maxRecDepth 20000 in
theorem wo_i : Cond.instanceMethod objectInit ∈ ec_tb := (ec_in 24 rfl rfl)
set_option maxRecDepth 20000 in
theorem wo_c : Cond.code objectInit ⟨#[0xb1]⟩ 1 none ∈ ec_tb := (ec_in 25 rfl rfl)
set_option maxRecDepth 20000 in
theorem wm_s : Cond.static Lib.Math.min.name ∈ ec_tb := (ec_in 295 rfl rfl)
set_option maxRecDepth 20000 in
theorem wm_i : Cond.initialized "java/lang/Math" ∈ ec_tb := (ec_in 13 rfl rfl)
set_option maxRecDepth 20000 in
theorem wm_c : Cond.code Lib.Math.min.name Lib.Math.min.code 2 (some .int) ∈ ec_tb := (ec_in 296 rfl rfl)
set_option maxRecDepth 20000 in
theorem wa_int : Cond.arrayClass .int ∈ ec_tb := (ec_in 44 rfl rfl)
set_option maxRecDepth 20000 in
theorem wa_boolean : Cond.arrayClass .boolean ∈ ec_tb := (ec_in 101 rfl rfl)
set_option maxRecDepth 20000 in
theorem wa_long : Cond.arrayClass .long ∈ ec_tb := (ec_in 838 rfl rfl)

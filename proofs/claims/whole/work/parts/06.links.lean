abbrev iX0_init : mI := (yX0_init, cX0_init, 2, none, 5)
abbrev iX0_save : mI := (yX0_save, cX0_save, 2, none, 8)
abbrev iX0_restore : mI := (yX0_restore, cX0_restore, 2, none, 8)
abbrev iX1_init : mI := (yX1_init, cX1_init, 1, none, 1)
abbrev iX1_rank : mI := (yX1_rank, cX1_rank, 4, none, 6)
abbrev iX1_insert : mI := (yX1_insert, cX1_insert, 5, none, 5)
abbrev iX1_has : mI := (yX1_has, cX1_has, 2, (some .boolean), 0)
abbrev iX1_titleAt : mI := (yX1_titleAt, cX1_titleAt, 2, (some .int), 1)
abbrev iX1_placeAt : mI := (yX1_placeAt, cX1_placeAt, 2, (some .int), 1)
abbrev iX2_init : mI := (yX2_init, cX2_init, 1, none, 4)
abbrev iX2_copyFrom : mI := (yX2_copyFrom, cX2_copyFrom, 3, none, 7)
abbrev iX2_has : mI := (yX2_has, cX2_has, 2, (some .boolean), 1)
abbrev iX2_refusal : mI := (yX2_refusal, cX2_refusal, 3, (some .int), 4)
abbrev iX2_appendToQuery : mI := (yX2_appendToQuery, cX2_appendToQuery, 2, none, 0)
abbrev iX2_queryEndsWithLetter : mI := (yX2_queryEndsWithLetter, cX2_queryEndsWithLetter, 1, (some .boolean), 0)
abbrev iX2_placeOfMatch : mI := (yX2_placeOfMatch, cX2_placeOfMatch, 3, (some .int), 4)
abbrev iX2_comesBefore : mI := (yX2_comesBefore, cX2_comesBefore, 7, (some .boolean), 4)
abbrev iX3_init : mI := (yX3_init, cX3_init, 1, none, 1)
abbrev iX3_look : mI := (yX3_look, cX3_look, 6, none, 7)
abbrev iX3_hasKey : mI := (yX3_hasKey, cX3_hasKey, 1, (some .boolean), 0)
abbrev iX3_hasShortcut : mI := (yX3_hasShortcut, cX3_hasShortcut, 1, (some .boolean), 0)
abbrev iX3_lookAtPiecesFrom : mI := (yX3_lookAtPiecesFrom, cX3_lookAtPiecesFrom, 7, none, 6)
abbrev iX3_longestWanted : mI := (yX3_longestWanted, cX3_longestWanted, 1, (some .int), 1)
abbrev iX3_findPlaces : mI := (yX3_findPlaces, cX3_findPlaces, 10, none, 1)
abbrev iX3_isKnownBy : mI := (yX3_isKnownBy, cX3_isKnownBy, 5, (some .boolean), 1)
abbrev iX3_isFirstFor : mI := (yX3_isFirstFor, cX3_isFirstFor, 7, (some .boolean), 5)
abbrev iX3_placeOf : mI := (yX3_placeOf, cX3_placeOf, 3, (some .int), 0)
abbrev iX4_init : mI := (yX4_init, cX4_init, 1, none, 1)
abbrev iX4_append : mI := (yX4_append, cX4_append, 2, (some .boolean), 0)
abbrev iX4_makeEmpty : mI := (yX4_makeEmpty, cX4_makeEmpty, 1, none, 0)
abbrev iX4_rewind : mI := (yX4_rewind, cX4_rewind, 1, none, 0)
abbrev iX4_findFault : mI := (yX4_findFault, cX4_findFault, 2, (some .int), 10)
abbrev iX4_isTitle : mI := (yX4_isTitle, cX4_isTitle, 1, (some .boolean), 3)
abbrev iX4_passCommand : mI := (yX4_passCommand, cX4_passCommand, 1, (some .boolean), 9)
abbrev iX4_passSemicolon : mI := (yX4_passSemicolon, cX4_passSemicolon, 1, (some .boolean), 1)
abbrev iX4_passTitle : mI := (yX4_passTitle, cX4_passTitle, 4, (some .boolean), 2)
abbrev iX4_passNumber : mI := (yX4_passNumber, cX4_passNumber, 2, (some .boolean), 1)
abbrev iX4_passName : mI := (yX4_passName, cX4_passName, 4, (some .boolean), 8)
abbrev iX4_passOneOf : mI := (yX4_passOneOf, cX4_passOneOf, 7, (some .int), 7)
abbrev iX4_sameLength : mI := (yX4_sameLength, cX4_sameLength, 3, (some .int), 6)
abbrev iX4_hasSign : mI := (yX4_hasSign, cX4_hasSign, 1, (some .boolean), 0)
abbrev iX4_word : mI := (yX4_word, cX4_word, 1, (some (.object "java/lang/String")), 1)
abbrev iX4_name : mI := (yX4_name, cX4_name, 1, (some (.object "java/lang/String")), 0)
abbrev iX4_isLetter : mI := (yX4_isLetter, cX4_isLetter, 1, (some .boolean), 1)
abbrev iX4_isDigit : mI := (yX4_isDigit, cX4_isDigit, 1, (some .boolean), 0)
abbrev iX4_passedTitle : mI := (yX4_passedTitle, cX4_passedTitle, 3, (some (.object "TitleFinder$Title")), 3)
abbrev iX4_copyPassed : mI := (yX4_copyPassed, cX4_copyPassed, 3, none, 1)
abbrev iX5_init : mI := (yX5_init, cX5_init, 4, none, 1)
abbrev iX5_unused : mI := (yX5_unused, cX5_unused, 1, (some (.object "TitleFinder$Title")), 2)
abbrev iX5_initialsOf : mI := (yX5_initialsOf, cX5_initialsOf, 4, (some (.array .char)), 1)
abbrev iX5_wordCount : mI := (yX5_wordCount, cX5_wordCount, 3, (some .int), 0)
abbrev iX5_usedOnceMore : mI := (yX5_usedOnceMore, cX5_usedOnceMore, 1, (some (.object "TitleFinder$Title")), 2)
abbrev iX5_run : mI := (yX5_run, cX5_run, 2, (some (.array .char)), 0)
abbrev iX5_startsPiece : mI := (yX5_startsPiece, cX5_startsPiece, 3, (some .boolean), 0)
abbrev iX5_placeOf : mI := (yX5_placeOf, cX5_placeOf, 6, (some .int), 1)
abbrev iX5_commonRun : mI := (yX5_commonRun, cX5_commonRun, 5, (some .int), 1)
abbrev iX5_hasLettersOf : mI := (yX5_hasLettersOf, cX5_hasLettersOf, 2, (some .boolean), 1)
abbrev iX5_comesByNameBefore : mI := (yX5_comesByNameBefore, cX5_comesByNameBefore, 3, (some .boolean), 0)
abbrev iX5_sameLength : mI := (yX5_sameLength, cX5_sameLength, 6, (some .int), 0)
abbrev iX6_init : mI := (yX6_init, cX6_init, 1, none, 6)
abbrev iX6_type : mI := (yX6_type, cX6_type, 2, (some .int), 1)
abbrev iX6_clearText : mI := (yX6_clearText, cX6_clearText, 2, (some .int), 1)
abbrev iX6_syntaxError : mI := (yX6_syntaxError, cX6_syntaxError, 1, (some .int), 11)
abbrev iX6_carryOut : mI := (yX6_carryOut, cX6_carryOut, 2, (some .int), 11)
abbrev iX6_obeyed : mI := (yX6_obeyed, cX6_obeyed, 1, (some .boolean), 8)
abbrev iX6_add : mI := (yX6_add, cX6_add, 3, (some .int), 9)
abbrev iX6_addIfPossible : mI := (yX6_addIfPossible, cX6_addIfPossible, 3, (some .int), 7)
abbrev iX6_drop : mI := (yX6_drop, cX6_drop, 2, (some .int), 9)
abbrev iX6_dropIfThere : mI := (yX6_dropIfThere, cX6_dropIfThere, 2, (some .boolean), 4)
abbrev iX6_titles : mI := (yX6_titles, cX6_titles, 1, (some .int), 1)
abbrev iX6_character : mI := (yX6_character, cX6_character, 4, (some .int), 4)
abbrev iX6_of : mI := (yX6_of, cX6_of, 3, (some .int), 8)
abbrev iX6_studiedNumber : mI := (yX6_studiedNumber, cX6_studiedNumber, 3, (some .int), 1)
abbrev iX6_common : mI := (yX6_common, cX6_common, 3, (some .int), 4)
abbrev iX6_closest : mI := (yX6_closest, cX6_closest, 7, (some .int), 4)
abbrev iX6_unknown : mI := (yX6_unknown, cX6_unknown, 3, (some .int), 8)
abbrev iX6_hardest : mI := (yX6_hardest, cX6_hardest, 4, (some .int), 8)
abbrev iX6_ifAdded : mI := (yX6_ifAdded, cX6_ifAdded, 5, (some .int), 9)
abbrev iX6_keyWouldChange : mI := (yX6_keyWouldChange, cX6_keyWouldChange, 4, (some .boolean), 8)
abbrev iX6_setMode : mI := (yX6_setMode, cX6_setMode, 3, (some .int), 9)
abbrev iX6_setOrder : mI := (yX6_setOrder, cX6_setOrder, 3, (some .int), 9)
abbrev iX6_mode : mI := (yX6_mode, cX6_mode, 1, (some .int), 0)
abbrev iX6_order : mI := (yX6_order, cX6_order, 1, (some .int), 0)
abbrev iX6_ask : mI := (yX6_ask, cX6_ask, 2, (some .int), 9)
abbrev iX6_erase : mI := (yX6_erase, cX6_erase, 1, (some .int), 9)
abbrev iX6_queryLength : mI := (yX6_queryLength, cX6_queryLength, 1, (some .int), 0)
abbrev iX6_queryCharacter : mI := (yX6_queryCharacter, cX6_queryCharacter, 2, (some .int), 0)
abbrev iX6_results : mI := (yX6_results, cX6_results, 1, (some .int), 7)
abbrev iX6_result : mI := (yX6_result, cX6_result, 2, (some .int), 7)
abbrev iX6_matchPlace : mI := (yX6_matchPlace, cX6_matchPlace, 2, (some .int), 7)
abbrev iX6_pick : mI := (yX6_pick, cX6_pick, 2, (some .int), 9)
abbrev iX6_pickIfThere : mI := (yX6_pickIfThere, cX6_pickIfThere, 3, (some .int), 7)
abbrev iX6_undo : mI := (yX6_undo, cX6_undo, 1, (some .int), 9)
abbrev iX6_digest : mI := (yX6_digest, cX6_digest, 4, (some .long), 9)
abbrev iX6_hashWithTitle : mI := (yX6_hashWithTitle, cX6_hashWithTitle, 8, (some .long), 8)
abbrev iX6_hashWithResults : mI := (yX6_hashWithResults, cX6_hashWithResults, 6, (some .long), 8)
abbrev iX6_hashWith : mI := (yX6_hashWith, cX6_hashWith, 3, (some .long), 0)
abbrev iX7_init : mI := (yX7_init, cX7_init, 1, none, 1)
abbrev iX7_within : mI := (yX7_within, cX7_within, 3, (some .boolean), 0)
abbrev iX7_record : mI := (yX7_record, cX7_record, 2, none, 0)
abbrev iX7_isTitle : mI := (yX7_isTitle, cX7_isTitle, 2, (some .boolean), 1)
abbrev iX7_part : mI := (yX7_part, cX7_part, 3, (some .int), 0)
abbrev iX7_lengthOf : mI := (yX7_lengthOf, cX7_lengthOf, 2, (some .int), 1)
abbrev iX7_characterOf : mI := (yX7_characterOf, cX7_characterOf, 3, (some .int), 1)
abbrev iX7_isLetter : mI := (yX7_isLetter, cX7_isLetter, 1, (some .boolean), 1)
abbrev iX7_beginsWord : mI := (yX7_beginsWord, cX7_beginsWord, 3, (some .boolean), 2)
abbrev iX7_findSources : mI := (yX7_findSources, cX7_findSources, 4, none, 3)
abbrev iX7_sourceAt : mI := (yX7_sourceAt, cX7_sourceAt, 3, (some .int), 0)
abbrev iX7_canStart : mI := (yX7_canStart, cX7_canStart, 3, (some .boolean), 3)
abbrev iX7_isPiece : mI := (yX7_isPiece, cX7_isPiece, 4, (some .boolean), 4)
abbrev iX7_asks : mI := (yX7_asks, cX7_asks, 5, none, 1)
abbrev iX7_placeIn : mI := (yX7_placeIn, cX7_placeIn, 5, (some .int), 5)
abbrev iX7_isAheadByName : mI := (yX7_isAheadByName, cX7_isAheadByName, 4, (some .boolean), 2)
abbrev iX7_isAheadByPlace : mI := (yX7_isAheadByPlace, cX7_isAheadByPlace, 3, (some .boolean), 2)
abbrev iX7_isAhead : mI := (yX7_isAhead, cX7_isAhead, 3, (some .boolean), 3)
abbrev iX7_findPlaces : mI := (yX7_findPlaces, cX7_findPlaces, 2, none, 6)
abbrev iX7_findResults : mI := (yX7_findResults, cX7_findResults, 3, none, 7)
abbrev iX7_isAlone : mI := (yX7_isAlone, cX7_isAlone, 4, (some .boolean), 6)
abbrev iX7_isFirst : mI := (yX7_isFirst, cX7_isFirst, 4, (some .boolean), 7)
abbrev iX7_findPiece : mI := (yX7_findPiece, cX7_findPiece, 5, none, 8)
abbrev iX7_findKeys : mI := (yX7_findKeys, cX7_findKeys, 2, none, 9)
abbrev iX7_unknownNow : mI := (yX7_unknownNow, cX7_unknownNow, 3, (some .int), 0)
abbrev iX7_hardestNow : mI := (yX7_hardestNow, cX7_hardestNow, 3, (some .int), 0)
abbrev iX7_type : mI := (yX7_type, cX7_type, 2, (some .int), 1)
abbrev iX7_clearText : mI := (yX7_clearText, cX7_clearText, 2, (some .int), 0)
abbrev iX7_typedAt : mI := (yX7_typedAt, cX7_typedAt, 2, (some .int), 0)
abbrev iX7_isNext : mI := (yX7_isNext, cX7_isNext, 3, (some .boolean), 1)
abbrev iX7_readsWord : mI := (yX7_readsWord, cX7_readsWord, 6, (some .boolean), 2)
abbrev iX7_readsTitle : mI := (yX7_readsTitle, cX7_readsTitle, 5, (some .boolean), 2)
abbrev iX7_readsNumber : mI := (yX7_readsNumber, cX7_readsNumber, 2, (some .boolean), 1)
abbrev iX7_readsMode : mI := (yX7_readsMode, cX7_readsMode, 2, (some .boolean), 3)
abbrev iX7_readsOrder : mI := (yX7_readsOrder, cX7_readsOrder, 2, (some .boolean), 3)
abbrev iX7_readsAddOrAsk : mI := (yX7_readsAddOrAsk, cX7_readsAddOrAsk, 1, (some .boolean), 3)
abbrev iX7_readsCommand : mI := (yX7_readsCommand, cX7_readsCommand, 1, (some .boolean), 4)
abbrev iX7_findError : mI := (yX7_findError, cX7_findError, 1, (some .int), 5)
abbrev iX7_syntaxError : mI := (yX7_syntaxError, cX7_syntaxError, 1, (some .int), 6)
abbrev iX7_isThere : mI := (yX7_isThere, cX7_isThere, 7, (some .boolean), 2)
abbrev iX7_whyNotAdded : mI := (yX7_whyNotAdded, cX7_whyNotAdded, 3, (some .int), 3)
abbrev iX7_adds : mI := (yX7_adds, cX7_adds, 6, (some .int), 0)
abbrev iX7_drops : mI := (yX7_drops, cX7_drops, 3, (some .int), 0)
abbrev iX7_clearsQuery : mI := (yX7_clearsQuery, cX7_clearsQuery, 2, none, 0)
abbrev iX7_picks : mI := (yX7_picks, cX7_picks, 3, (some .int), 1)
abbrev iX7_isRank : mI := (yX7_isRank, cX7_isRank, 2, (some .boolean), 8)
abbrev iX7_mayDo : mI := (yX7_mayDo, cX7_mayDo, 1, (some .boolean), 9)
abbrev iX7_does : mI := (yX7_does, cX7_does, 2, none, 2)
abbrev iX7_carryOut : mI := (yX7_carryOut, cX7_carryOut, 3, (some .int), 10)
abbrev iX7_whyNotTyped : mI := (yX7_whyNotTyped, cX7_whyNotTyped, 1, (some .int), 4)
abbrev iX7_add : mI := (yX7_add, cX7_add, 3, (some .int), 5)
abbrev iX7_drop : mI := (yX7_drop, cX7_drop, 2, (some .int), 2)
abbrev iX7_titles : mI := (yX7_titles, cX7_titles, 1, (some .int), 0)
abbrev iX7_character : mI := (yX7_character, cX7_character, 3, (some .int), 2)
abbrev iX7_words : mI := (yX7_words, cX7_words, 4, (some .int), 3)
abbrev iX7_ofTitle : mI := (yX7_ofTitle, cX7_ofTitle, 3, (some .int), 9)
abbrev iX7_of : mI := (yX7_of, cX7_of, 3, (some .int), 10)
abbrev iX7_longestRun : mI := (yX7_longestRun, cX7_longestRun, 6, (some .int), 2)
abbrev iX7_common : mI := (yX7_common, cX7_common, 3, (some .int), 3)
abbrev iX7_closest : mI := (yX7_closest, cX7_closest, 6, (some .int), 3)
abbrev iX7_unknown : mI := (yX7_unknown, cX7_unknown, 1, (some .int), 10)
abbrev iX7_hardest : mI := (yX7_hardest, cX7_hardest, 1, (some .int), 10)
abbrev iX7_ifAdded : mI := (yX7_ifAdded, cX7_ifAdded, 5, (some .int), 10)
abbrev iX7_setMode : mI := (yX7_setMode, cX7_setMode, 3, (some .int), 1)
abbrev iX7_setOrder : mI := (yX7_setOrder, cX7_setOrder, 3, (some .int), 1)
abbrev iX7_mode : mI := (yX7_mode, cX7_mode, 1, (some .int), 0)
abbrev iX7_order : mI := (yX7_order, cX7_order, 1, (some .int), 0)
abbrev iX7_resultsMany : mI := (yX7_resultsMany, cX7_resultsMany, 1, (some .int), 8)
abbrev iX7_ask : mI := (yX7_ask, cX7_ask, 3, (some .int), 9)
abbrev iX7_erase : mI := (yX7_erase, cX7_erase, 1, (some .int), 9)
abbrev iX7_queryLength : mI := (yX7_queryLength, cX7_queryLength, 1, (some .int), 0)
abbrev iX7_queryCharacter : mI := (yX7_queryCharacter, cX7_queryCharacter, 2, (some .int), 1)
abbrev iX7_results : mI := (yX7_results, cX7_results, 1, (some .int), 9)
abbrev iX7_result : mI := (yX7_result, cX7_result, 2, (some .int), 9)
abbrev iX7_matchPlace : mI := (yX7_matchPlace, cX7_matchPlace, 2, (some .int), 9)
abbrev iX7_pick : mI := (yX7_pick, cX7_pick, 2, (some .int), 9)
abbrev iX7_undo : mI := (yX7_undo, cX7_undo, 2, (some .int), 0)
abbrev iX7_digest : mI := (yX7_digest, cX7_digest, 5, (some .long), 10)
abbrev iJ9_max_7cf53 : mI := (yJ9_max_7cf53, cJ9_max_7cf53, 2, (some .int), 0)
abbrev iJ9_min_7cf53 : mI := (yJ9_min_7cf53, cJ9_min_7cf53, 2, (some .int), 0)
abbrev iJ0_length_8abf5 : mI := (yJ0_length_8abf5, cJ0_length_8abf5, 1, (some .int), 1)
abbrev iJ0_charAt_5068e : mI := (yJ0_charAt_5068e, cJ0_charAt_5068e, 2, (some .char), 5)
abbrev iJ0_coder_7d493 : mI := (yJ0_coder_7d493, cJ0_coder_7d493, 1, (some .byte), 0)
abbrev iJ0_isLatin1_aae02 : mI := (yJ0_isLatin1_aae02, cJ0_isLatin1_aae02, 1, (some .boolean), 0)
abbrev iJ0_checkIndex_df160 : mI := (yJ0_checkIndex_df160, cJ0_checkIndex_df160, 2, none, 2)
abbrev iJ1_charAt_3b067 : mI := (yJ1_charAt_3b067, cJ1_charAt_3b067, 2, (some .char), 3)
abbrev iJ2_getChar_3b067 : mI := (yJ2_getChar_3b067, cJ2_getChar_3b067, 2, (some .char), 1)
abbrev iJ2_length_9d52b : mI := (yJ2_length_9d52b, cJ2_length_9d52b, 1, (some .int), 0)
abbrev iJ2_charAt_3b067 : mI := (yJ2_charAt_3b067, cJ2_charAt_3b067, 2, (some .char), 4)
abbrev iJ2_checkIndex_2214a : mI := (yJ2_checkIndex_2214a, cJ2_checkIndex_2214a, 2, none, 3)
abbrev iJxa1e45_init_da8c8 : mI := (yJxa1e45_init_da8c8, cJxa1e45_init_da8c8, 1, none, 1)
abbrev iJxc12de_init_da8c8 : mI := (yJxc12de_init_da8c8, cJxc12de_init_da8c8, 1, none, 2)
abbrev iJx4a65c_init_da8c8 : mI := (yJx4a65c_init_da8c8, cJx4a65c_init_da8c8, 1, none, 3)
abbrev iJx4a65c_grow_92f84 : mI := (yJx4a65c_grow_92f84, cJx4a65c_grow_92f84, 4, (some (.array (.object "java/lang/Object"))), 3)
abbrev iJx4a65c_grow_d5877 : mI := (yJx4a65c_grow_d5877, cJx4a65c_grow_d5877, 1, (some (.array (.object "java/lang/Object"))), 4)
abbrev iJx4a65c_size_8abf5 : mI := (yJx4a65c_size_8abf5, cJx4a65c_size_8abf5, 1, (some .int), 0)
abbrev iJx4a65c_elementData_915e3 : mI := (yJx4a65c_elementData_915e3, cJx4a65c_elementData_915e3, 2, (some (.object "java/lang/Object")), 0)
abbrev iJx4a65c_get_915e3 : mI := (yJx4a65c_get_915e3, cJx4a65c_get_915e3, 2, (some (.object "java/lang/Object")), 3)
abbrev iJx4a65c_set_bcc79 : mI := (yJx4a65c_set_bcc79, cJx4a65c_set_bcc79, 4, (some (.object "java/lang/Object")), 3)
abbrev iJx4a65c_add_72be8 : mI := (yJx4a65c_add_72be8, cJx4a65c_add_72be8, 4, none, 5)
abbrev iJx4a65c_add_9ea2d : mI := (yJx4a65c_add_9ea2d, cJx4a65c_add_9ea2d, 2, (some .boolean), 6)
abbrev iJx4a65c_remove_915e3 : mI := (yJx4a65c_remove_915e3, cJx4a65c_remove_915e3, 4, (some (.object "java/lang/Object")), 3)
abbrev iJx4a65c_fastRemove_b59b0 : mI := (yJx4a65c_fastRemove_b59b0, cJx4a65c_fastRemove_b59b0, 4, none, 1)
abbrev iJx4a65c_clear_da8c8 : mI := (yJx4a65c_clear_da8c8, cJx4a65c_clear_da8c8, 4, none, 0)
abbrev iJ7_copyOf_1904c : mI := (yJ7_copyOf_1904c, cJ7_copyOf_1904c, 2, (some (.array (.object "java/lang/Object"))), 2)
abbrev iJ7_copyOf_6403c : mI := (yJ7_copyOf_6403c, cJ7_copyOf_6403c, 4, (some (.array (.object "java/lang/Object"))), 1)
abbrev iJ15_checkIndex_7cf53 : mI := (yJ15_checkIndex_7cf53, cJ15_checkIndex_7cf53, 2, (some .int), 2)
abbrev iJ8_newLength_cabcc : mI := (yJ8_newLength_cabcc, cJ8_newLength_cabcc, 4, (some .int), 2)
abbrev iJ8_hugeLength_7cf53 : mI := (yJ8_hugeLength_7cf53, cJ8_hugeLength_7cf53, 3, (some .int), 1)
abbrev iJ3_checkIndex_8e157 : mI := (yJ3_checkIndex_8e157, cJ3_checkIndex_8e157, 3, (some .int), 1)
set_option maxRecDepth 20000 in
theorem cw_Jx4a65c : ∀ w ∈ u_ws RJx4a65c TJx4a65c 3, w ∈ BIG := by
  intro w hw
  obtain ⟨k, hk, rfl⟩ := List.mem_map.mp hw
  have hk := List.mem_range.mp hk
  match k, hk with
  | 0, _ => exact bw 129 (by decide +kernel) rfl
  | 1, _ => exact bw 125 (by decide +kernel) rfl
  | 2, _ => exact bw 127 (by decide +kernel) rfl
set_option maxRecDepth 20000 in
theorem cw_X0 : ∀ w ∈ u_ws RX0 TX0 3, w ∈ BIG := by
  intro w hw
  obtain ⟨k, hk, rfl⟩ := List.mem_map.mp hw
  have hk := List.mem_range.mp hk
  match k, hk with
  | 0, _ => exact bw 171 (by decide +kernel) rfl
  | 1, _ => exact bw 173 (by decide +kernel) rfl
  | 2, _ => exact bw 175 (by decide +kernel) rfl
set_option maxRecDepth 20000 in
theorem cw_X1 : ∀ w ∈ u_ws RX1 TX1 3, w ∈ BIG := by
  intro w hw
  obtain ⟨k, hk, rfl⟩ := List.mem_map.mp hw
  have hk := List.mem_range.mp hk
  match k, hk with
  | 0, _ => exact bw 219 (by decide +kernel) rfl
  | 1, _ => exact bw 221 (by decide +kernel) rfl
  | 2, _ => exact bw 223 (by decide +kernel) rfl
set_option maxRecDepth 20000 in
theorem cw_X2 : ∀ w ∈ u_ws RX2 TX2 5, w ∈ BIG := by
  intro w hw
  obtain ⟨k, hk, rfl⟩ := List.mem_map.mp hw
  have hk := List.mem_range.mp hk
  match k, hk with
  | 0, _ => exact bw 146 (by decide +kernel) rfl
  | 1, _ => exact bw 148 (by decide +kernel) rfl
  | 2, _ => exact bw 150 (by decide +kernel) rfl
  | 3, _ => exact bw 152 (by decide +kernel) rfl
  | 4, _ => exact bw 154 (by decide +kernel) rfl
set_option maxRecDepth 20000 in
theorem cw_X3 : ∀ w ∈ u_ws RX3 TX3 5, w ∈ BIG := by
  intro w hw
  obtain ⟨k, hk, rfl⟩ := List.mem_map.mp hw
  have hk := List.mem_range.mp hk
  match k, hk with
  | 0, _ => exact bw 244 (by decide +kernel) rfl
  | 1, _ => exact bw 246 (by decide +kernel) rfl
  | 2, _ => exact bw 248 (by decide +kernel) rfl
  | 3, _ => exact bw 250 (by decide +kernel) rfl
  | 4, _ => exact bw 252 (by decide +kernel) rfl
set_option maxRecDepth 20000 in
theorem cw_X4 : ∀ w ∈ u_ws RX4 TX4 7, w ∈ BIG := by
  intro w hw
  obtain ⟨k, hk, rfl⟩ := List.mem_map.mp hw
  have hk := List.mem_range.mp hk
  match k, hk with
  | 0, _ => exact bw 194 (by decide +kernel) rfl
  | 1, _ => exact bw 196 (by decide +kernel) rfl
  | 2, _ => exact bw 198 (by decide +kernel) rfl
  | 3, _ => exact bw 200 (by decide +kernel) rfl
  | 4, _ => exact bw 202 (by decide +kernel) rfl
  | 5, _ => exact bw 204 (by decide +kernel) rfl
  | 6, _ => exact bw 206 (by decide +kernel) rfl
set_option maxRecDepth 20000 in
theorem cw_X5 : ∀ w ∈ u_ws RX5 TX5 3, w ∈ BIG := by
  intro w hw
  obtain ⟨k, hk, rfl⟩ := List.mem_map.mp hw
  have hk := List.mem_range.mp hk
  match k, hk with
  | 0, _ => exact bw 533 (by decide +kernel) rfl
  | 1, _ => exact bw 535 (by decide +kernel) rfl
  | 2, _ => exact bw 537 (by decide +kernel) rfl
set_option maxRecDepth 20000 in
theorem cw_X6 : ∀ w ∈ u_ws RX6 TX6 6, w ∈ BIG := by
  intro w hw
  obtain ⟨k, hk, rfl⟩ := List.mem_map.mp hw
  have hk := List.mem_range.mp hk
  match k, hk with
  | 0, _ => exact bw 261 (by decide +kernel) rfl
  | 1, _ => exact bw 263 (by decide +kernel) rfl
  | 2, _ => exact bw 265 (by decide +kernel) rfl
  | 3, _ => exact bw 267 (by decide +kernel) rfl
  | 4, _ => exact bw 269 (by decide +kernel) rfl
  | 5, _ => exact bw 271 (by decide +kernel) rfl
set_option maxRecDepth 20000 in
theorem cw_X7 : ∀ w ∈ u_ws RX7 TX7 22, w ∈ BIG := by
  intro w hw
  obtain ⟨k, hk, rfl⟩ := List.mem_map.mp hw
  have hk := List.mem_range.mp hk
  match k, hk with
  | 0, _ => exact bw 864 (by decide +kernel) rfl
  | 1, _ => exact bw 866 (by decide +kernel) rfl
  | 2, _ => exact bw 868 (by decide +kernel) rfl
  | 3, _ => exact bw 870 (by decide +kernel) rfl
  | 4, _ => exact bw 872 (by decide +kernel) rfl
  | 5, _ => exact bw 874 (by decide +kernel) rfl
  | 6, _ => exact bw 876 (by decide +kernel) rfl
  | 7, _ => exact bw 878 (by decide +kernel) rfl
  | 8, _ => exact bw 880 (by decide +kernel) rfl
  | 9, _ => exact bw 882 (by decide +kernel) rfl
  | 10, _ => exact bw 884 (by decide +kernel) rfl
  | 11, _ => exact bw 886 (by decide +kernel) rfl
  | 12, _ => exact bw 888 (by decide +kernel) rfl
  | 13, _ => exact bw 890 (by decide +kernel) rfl
  | 14, _ => exact bw 892 (by decide +kernel) rfl
  | 15, _ => exact bw 894 (by decide +kernel) rfl
  | 16, _ => exact bw 896 (by decide +kernel) rfl
  | 17, _ => exact bw 898 (by decide +kernel) rfl
  | 18, _ => exact bw 900 (by decide +kernel) rfl
  | 19, _ => exact bw 902 (by decide +kernel) rfl
  | 20, _ => exact bw 904 (by decide +kernel) rfl
  | 21, _ => exact bw 906 (by decide +kernel) rfl
  | z + 22, h => exact absurd h (by omega)
set_option maxRecDepth 20000 in
theorem f_Jx4a65c_9 : mF RJx4a65c 9 0 1 := ⟨_, rfl, by decide, cw_Jx4a65c, "java/util/ArrayList", bw 120 (by decide +kernel) rfl, Or.inl rfl⟩
set_option maxRecDepth 20000 in
theorem p_Jx4a65c_9 : mFp RJx4a65c 9 0 1 (.array (.object "java/lang/Object")) false := ⟨_, tyJx4a65c, rfl, by decide, cw_Jx4a65c, ⟨"java/util/ArrayList", bw 120 (by decide +kernel) rfl, Or.inl rfl⟩, tyJx4a65c_ok, nmJx4a65c, rfl, rfl, fun h => by first | rfl | exact absurd h (by decide)⟩
set_option maxRecDepth 20000 in
theorem f_Jx4a65c_48 : mF RJx4a65c 48 0 2 := ⟨_, rfl, by decide, cw_Jx4a65c, "java/util/ArrayList", bw 121 (by decide +kernel) rfl, Or.inl rfl⟩
set_option maxRecDepth 20000 in
theorem p_Jx4a65c_48 : mFp RJx4a65c 48 0 2 (.int) false := ⟨_, tyJx4a65c, rfl, by decide, cw_Jx4a65c, ⟨"java/util/ArrayList", bw 121 (by decide +kernel) rfl, Or.inl rfl⟩, tyJx4a65c_ok, nmJx4a65c, rfl, rfl, fun h => by first | rfl | exact absurd h (by decide)⟩
set_option maxRecDepth 20000 in
theorem f_Jx4a65c_63 : mF RJx4a65c 63 0 0 := ⟨_, rfl, by decide, cw_Jx4a65c, "java/util/ArrayList", bw 123 (by decide +kernel) rfl, Or.inr (bw 124 (by decide +kernel) rfl)⟩
set_option maxRecDepth 20000 in
theorem p_Jx4a65c_63 : mFp RJx4a65c 63 0 0 (.int) false := ⟨_, tyJx4a65c, rfl, by decide, cw_Jx4a65c, ⟨"java/util/ArrayList", bw 123 (by decide +kernel) rfl, Or.inr (bw 124 (by decide +kernel) rfl)⟩, tyJx4a65c_ok, nmJx4a65c, rfl, rfl, fun h => by first | rfl | exact absurd h (by decide)⟩
set_option maxRecDepth 20000 in
theorem p_Jxc12de_7 : mFp RJxc12de 7 0 0 (.int) false := ⟨_, tyJx4a65c, rfl, by decide, cw_Jx4a65c, ⟨"java/util/AbstractList", bw 122 (by decide +kernel) rfl, Or.inl rfl⟩, tyJx4a65c_ok, nmJx4a65c, rfl, rfl, fun h => by first | rfl | exact absurd h (by decide)⟩
set_option maxRecDepth 20000 in
theorem f_X0_11 : mF RX0 11 1 0 := ⟨_, rfl, by decide, cw_X0, "TitleFinder$History", bw 167 (by decide +kernel) rfl, Or.inl rfl⟩
set_option maxRecDepth 20000 in
theorem p_X0_11 : mFp RX0 11 1 0 (.array (.object "TitleFinder$State")) true := ⟨_, tyX0, rfl, by decide, cw_X0, ⟨"TitleFinder$History", bw 167 (by decide +kernel) rfl, Or.inl rfl⟩, tyX0_ok, nmX0, rfl, rfl, fun h => by first | rfl | exact absurd h (by decide)⟩
set_option maxRecDepth 20000 in
theorem f_X0_18 : mF RX0 18 1 1 := ⟨_, rfl, by decide, cw_X0, "TitleFinder$History", bw 168 (by decide +kernel) rfl, Or.inl rfl⟩
set_option maxRecDepth 20000 in
theorem p_X0_18 : mFp RX0 18 1 1 (.int) false := ⟨_, tyX0, rfl, by decide, cw_X0, ⟨"TitleFinder$History", bw 168 (by decide +kernel) rfl, Or.inl rfl⟩, tyX0_ok, nmX0, rfl, rfl, fun h => by first | rfl | exact absurd h (by decide)⟩
set_option maxRecDepth 20000 in
theorem f_X0_26 : mF RX0 26 1 2 := ⟨_, rfl, by decide, cw_X0, "TitleFinder$History", bw 169 (by decide +kernel) rfl, Or.inl rfl⟩
set_option maxRecDepth 20000 in
theorem p_X0_26 : mFp RX0 26 1 2 (.int) false := ⟨_, tyX0, rfl, by decide, cw_X0, ⟨"TitleFinder$History", bw 169 (by decide +kernel) rfl, Or.inl rfl⟩, tyX0_ok, nmX0, rfl, rfl, fun h => by first | rfl | exact absurd h (by decide)⟩
set_option maxRecDepth 20000 in
theorem f_X1_9 : mF RX1 9 2 0 := ⟨_, rfl, by decide, cw_X1, "TitleFinder$Ranking", bw 215 (by decide +kernel) rfl, Or.inl rfl⟩
set_option maxRecDepth 20000 in
theorem p_X1_9 : mFp RX1 9 2 0 (.array .int) true := ⟨_, tyX1, rfl, by decide, cw_X1, ⟨"TitleFinder$Ranking", bw 215 (by decide +kernel) rfl, Or.inl rfl⟩, tyX1_ok, nmX1, rfl, rfl, fun h => by first | rfl | exact absurd h (by decide)⟩
set_option maxRecDepth 20000 in
theorem f_X1_15 : mF RX1 15 2 1 := ⟨_, rfl, by decide, cw_X1, "TitleFinder$Ranking", bw 216 (by decide +kernel) rfl, Or.inl rfl⟩
set_option maxRecDepth 20000 in
theorem p_X1_15 : mFp RX1 15 2 1 (.array .int) true := ⟨_, tyX1, rfl, by decide, cw_X1, ⟨"TitleFinder$Ranking", bw 216 (by decide +kernel) rfl, Or.inl rfl⟩, tyX1_ok, nmX1, rfl, rfl, fun h => by first | rfl | exact absurd h (by decide)⟩
set_option maxRecDepth 20000 in
theorem f_X1_18 : mF RX1 18 2 2 := ⟨_, rfl, by decide, cw_X1, "TitleFinder$Ranking", bw 217 (by decide +kernel) rfl, Or.inl rfl⟩
set_option maxRecDepth 20000 in
theorem p_X1_18 : mFp RX1 18 2 2 (.int) false := ⟨_, tyX1, rfl, by decide, cw_X1, ⟨"TitleFinder$Ranking", bw 217 (by decide +kernel) rfl, Or.inl rfl⟩, tyX1_ok, nmX1, rfl, rfl, fun h => by first | rfl | exact absurd h (by decide)⟩
set_option maxRecDepth 20000 in
theorem f_X1_22 : mF RX1 22 3 0 := ⟨_, rfl, by decide, cw_X2, "TitleFinder$State", bw 133 (by decide +kernel) rfl, Or.inl rfl⟩
set_option maxRecDepth 20000 in
theorem f_X2_12 : mF RX2 12 3 0 := ⟨_, rfl, by decide, cw_X2, "TitleFinder$State", bw 132 (by decide +kernel) rfl, Or.inl rfl⟩
set_option maxRecDepth 20000 in
theorem p_X2_12 : mFp RX2 12 3 0 (.object "java/util/ArrayList") true := ⟨_, tyX2, rfl, by decide, cw_X2, ⟨"TitleFinder$State", bw 132 (by decide +kernel) rfl, Or.inl rfl⟩, tyX2_ok, nmX2, rfl, rfl, fun h => by first | rfl | exact absurd h (by decide)⟩
set_option maxRecDepth 20000 in
theorem f_X2_18 : mF RX2 18 3 1 := ⟨_, rfl, by decide, cw_X2, "TitleFinder$State", bw 136 (by decide +kernel) rfl, Or.inl rfl⟩
set_option maxRecDepth 20000 in
theorem p_X2_18 : mFp RX2 18 3 1 (.array .char) true := ⟨_, tyX2, rfl, by decide, cw_X2, ⟨"TitleFinder$State", bw 136 (by decide +kernel) rfl, Or.inl rfl⟩, tyX2_ok, nmX2, rfl, rfl, fun h => by first | rfl | exact absurd h (by decide)⟩
set_option maxRecDepth 20000 in
theorem f_X2_39 : mF RX2 39 3 2 := ⟨_, rfl, by decide, cw_X2, "TitleFinder$State", bw 138 (by decide +kernel) rfl, Or.inl rfl⟩
set_option maxRecDepth 20000 in
theorem p_X2_39 : mFp RX2 39 3 2 (.int) false := ⟨_, tyX2, rfl, by decide, cw_X2, ⟨"TitleFinder$State", bw 138 (by decide +kernel) rfl, Or.inl rfl⟩, tyX2_ok, nmX2, rfl, rfl, fun h => by first | rfl | exact absurd h (by decide)⟩
set_option maxRecDepth 20000 in
theorem f_X2_43 : mF RX2 43 3 3 := ⟨_, rfl, by decide, cw_X2, "TitleFinder$State", bw 142 (by decide +kernel) rfl, Or.inl rfl⟩
set_option maxRecDepth 20000 in
theorem p_X2_43 : mFp RX2 43 3 3 (.int) false := ⟨_, tyX2, rfl, by decide, cw_X2, ⟨"TitleFinder$State", bw 142 (by decide +kernel) rfl, Or.inl rfl⟩, tyX2_ok, nmX2, rfl, rfl, fun h => by first | rfl | exact absurd h (by decide)⟩
set_option maxRecDepth 20000 in
theorem f_X2_46 : mF RX2 46 3 4 := ⟨_, rfl, by decide, cw_X2, "TitleFinder$State", bw 144 (by decide +kernel) rfl, Or.inl rfl⟩
set_option maxRecDepth 20000 in
theorem p_X2_46 : mFp RX2 46 3 4 (.int) false := ⟨_, tyX2, rfl, by decide, cw_X2, ⟨"TitleFinder$State", bw 144 (by decide +kernel) rfl, Or.inl rfl⟩, tyX2_ok, nmX2, rfl, rfl, fun h => by first | rfl | exact absurd h (by decide)⟩
set_option maxRecDepth 20000 in
theorem f_X2_64 : mF RX2 64 6 2 := ⟨_, rfl, by decide, cw_X5, "TitleFinder$Title", bw 531 (by decide +kernel) rfl, Or.inl rfl⟩
set_option maxRecDepth 20000 in
theorem f_X2_67 : mF RX2 67 6 0 := ⟨_, rfl, by decide, cw_X5, "TitleFinder$Title", bw 526 (by decide +kernel) rfl, Or.inl rfl⟩
set_option maxRecDepth 20000 in
theorem f_X3_11 : mF RX3 11 4 0 := ⟨_, rfl, by decide, cw_X3, "TitleFinder$Study", bw 235 (by decide +kernel) rfl, Or.inl rfl⟩
set_option maxRecDepth 20000 in
theorem p_X3_11 : mFp RX3 11 4 0 (.array (.array .int)) true := ⟨_, tyX3, rfl, by decide, cw_X3, ⟨"TitleFinder$Study", bw 235 (by decide +kernel) rfl, Or.inl rfl⟩, tyX3_ok, nmX3, rfl, rfl, fun h => by first | rfl | exact absurd h (by decide)⟩
set_option maxRecDepth 20000 in
theorem p_X3_16 : mFp RX3 16 4 1 (.int) false := ⟨_, tyX3, rfl, by decide, cw_X3, ⟨"TitleFinder$Study", bw 236 (by decide +kernel) rfl, Or.inl rfl⟩, tyX3_ok, nmX3, rfl, rfl, fun h => by first | rfl | exact absurd h (by decide)⟩
set_option maxRecDepth 20000 in
theorem f_X3_20 : mF RX3 20 4 2 := ⟨_, rfl, by decide, cw_X3, "TitleFinder$Study", bw 238 (by decide +kernel) rfl, Or.inl rfl⟩
set_option maxRecDepth 20000 in
theorem p_X3_20 : mFp RX3 20 4 2 (.int) false := ⟨_, tyX3, rfl, by decide, cw_X3, ⟨"TitleFinder$Study", bw 238 (by decide +kernel) rfl, Or.inl rfl⟩, tyX3_ok, nmX3, rfl, rfl, fun h => by first | rfl | exact absurd h (by decide)⟩
set_option maxRecDepth 20000 in
theorem p_X3_23 : mFp RX3 23 4 3 (.int) false := ⟨_, tyX3, rfl, by decide, cw_X3, ⟨"TitleFinder$Study", bw 240 (by decide +kernel) rfl, Or.inl rfl⟩, tyX3_ok, nmX3, rfl, rfl, fun h => by first | rfl | exact absurd h (by decide)⟩
set_option maxRecDepth 20000 in
theorem f_X3_26 : mF RX3 26 4 4 := ⟨_, rfl, by decide, cw_X3, "TitleFinder$Study", bw 242 (by decide +kernel) rfl, Or.inl rfl⟩
set_option maxRecDepth 20000 in
theorem p_X3_26 : mFp RX3 26 4 4 (.int) false := ⟨_, tyX3, rfl, by decide, cw_X3, ⟨"TitleFinder$Study", bw 242 (by decide +kernel) rfl, Or.inl rfl⟩, tyX3_ok, nmX3, rfl, rfl, fun h => by first | rfl | exact absurd h (by decide)⟩
set_option maxRecDepth 20000 in
theorem f_X3_35 : mF RX3 35 3 0 := ⟨_, rfl, by decide, cw_X2, "TitleFinder$State", bw 134 (by decide +kernel) rfl, Or.inl rfl⟩
set_option maxRecDepth 20000 in
theorem f_X3_47 : mF RX3 47 3 3 := ⟨_, rfl, by decide, cw_X2, "TitleFinder$State", bw 141 (by decide +kernel) rfl, Or.inl rfl⟩
set_option maxRecDepth 20000 in
theorem f_X4_9 : mF RX4 9 5 0 := ⟨_, rfl, by decide, cw_X4, "TitleFinder$Text", bw 184 (by decide +kernel) rfl, Or.inl rfl⟩
set_option maxRecDepth 20000 in
theorem p_X4_9 : mFp RX4 9 5 0 (.array .char) true := ⟨_, tyX4, rfl, by decide, cw_X4, ⟨"TitleFinder$Text", bw 184 (by decide +kernel) rfl, Or.inl rfl⟩, tyX4_ok, nmX4, rfl, rfl, fun h => by first | rfl | exact absurd h (by decide)⟩
set_option maxRecDepth 20000 in
theorem f_X4_15 : mF RX4 15 5 1 := ⟨_, rfl, by decide, cw_X4, "TitleFinder$Text", bw 185 (by decide +kernel) rfl, Or.inl rfl⟩
set_option maxRecDepth 20000 in
theorem p_X4_15 : mFp RX4 15 5 1 (.int) false := ⟨_, tyX4, rfl, by decide, cw_X4, ⟨"TitleFinder$Text", bw 185 (by decide +kernel) rfl, Or.inl rfl⟩, tyX4_ok, nmX4, rfl, rfl, fun h => by first | rfl | exact absurd h (by decide)⟩
set_option maxRecDepth 20000 in
theorem f_X4_19 : mF RX4 19 5 2 := ⟨_, rfl, by decide, cw_X4, "TitleFinder$Text", bw 187 (by decide +kernel) rfl, Or.inl rfl⟩
set_option maxRecDepth 20000 in
theorem p_X4_19 : mFp RX4 19 5 2 (.int) false := ⟨_, tyX4, rfl, by decide, cw_X4, ⟨"TitleFinder$Text", bw 187 (by decide +kernel) rfl, Or.inl rfl⟩, tyX4_ok, nmX4, rfl, rfl, fun h => by first | rfl | exact absurd h (by decide)⟩
set_option maxRecDepth 20000 in
theorem f_X4_39 : mF RX4 39 5 3 := ⟨_, rfl, by decide, cw_X4, "TitleFinder$Text", bw 189 (by decide +kernel) rfl, Or.inl rfl⟩
set_option maxRecDepth 20000 in
theorem p_X4_39 : mFp RX4 39 5 3 (.int) false := ⟨_, tyX4, rfl, by decide, cw_X4, ⟨"TitleFinder$Text", bw 189 (by decide +kernel) rfl, Or.inl rfl⟩, tyX4_ok, nmX4, rfl, rfl, fun h => by first | rfl | exact absurd h (by decide)⟩
set_option maxRecDepth 20000 in
theorem f_X4_52 : mF RX4 52 5 5 := ⟨_, rfl, by decide, cw_X4, "TitleFinder$Text", bw 192 (by decide +kernel) rfl, Or.inl rfl⟩
set_option maxRecDepth 20000 in
theorem p_X4_52 : mFp RX4 52 5 5 (.int) false := ⟨_, tyX4, rfl, by decide, cw_X4, ⟨"TitleFinder$Text", bw 192 (by decide +kernel) rfl, Or.inl rfl⟩, tyX4_ok, nmX4, rfl, rfl, fun h => by first | rfl | exact absurd h (by decide)⟩
set_option maxRecDepth 20000 in
theorem f_X4_59 : mF RX4 59 5 6 := ⟨_, rfl, by decide, cw_X4, "TitleFinder$Text", bw 193 (by decide +kernel) rfl, Or.inl rfl⟩
set_option maxRecDepth 20000 in
theorem p_X4_59 : mFp RX4 59 5 6 (.int) false := ⟨_, tyX4, rfl, by decide, cw_X4, ⟨"TitleFinder$Text", bw 193 (by decide +kernel) rfl, Or.inl rfl⟩, tyX4_ok, nmX4, rfl, rfl, fun h => by first | rfl | exact absurd h (by decide)⟩
set_option maxRecDepth 20000 in
theorem f_X4_62 : mF RX4 62 5 4 := ⟨_, rfl, by decide, cw_X4, "TitleFinder$Text", bw 191 (by decide +kernel) rfl, Or.inl rfl⟩
set_option maxRecDepth 20000 in
theorem p_X4_62 : mFp RX4 62 5 4 (.int) false := ⟨_, tyX4, rfl, by decide, cw_X4, ⟨"TitleFinder$Text", bw 191 (by decide +kernel) rfl, Or.inl rfl⟩, tyX4_ok, nmX4, rfl, rfl, fun h => by first | rfl | exact absurd h (by decide)⟩
set_option maxRecDepth 20000 in
theorem p_X4_125 : mFp RX4 125 3 2 (.int) false := ⟨_, tyX2, rfl, by decide, cw_X2, ⟨"TitleFinder$State", bw 140 (by decide +kernel) rfl, Or.inl rfl⟩, tyX2_ok, nmX2, rfl, rfl, fun h => by first | rfl | exact absurd h (by decide)⟩
set_option maxRecDepth 20000 in
theorem f_X5_9 : mF RX5 9 6 0 := ⟨_, rfl, by decide, cw_X5, "TitleFinder$Title", bw 525 (by decide +kernel) rfl, Or.inl rfl⟩
set_option maxRecDepth 20000 in
theorem p_X5_9 : mFp RX5 9 6 0 (.array .char) true := ⟨_, tyX5, rfl, by decide, cw_X5, ⟨"TitleFinder$Title", bw 525 (by decide +kernel) rfl, Or.inl rfl⟩, tyX5_ok, nmX5, rfl, rfl, fun h => by first | rfl | exact absurd h (by decide)⟩
set_option maxRecDepth 20000 in
theorem f_X5_15 : mF RX5 15 6 1 := ⟨_, rfl, by decide, cw_X5, "TitleFinder$Title", bw 528 (by decide +kernel) rfl, Or.inl rfl⟩
set_option maxRecDepth 20000 in
theorem p_X5_15 : mFp RX5 15 6 1 (.array .char) true := ⟨_, tyX5, rfl, by decide, cw_X5, ⟨"TitleFinder$Title", bw 528 (by decide +kernel) rfl, Or.inl rfl⟩, tyX5_ok, nmX5, rfl, rfl, fun h => by first | rfl | exact absurd h (by decide)⟩
set_option maxRecDepth 20000 in
theorem f_X5_18 : mF RX5 18 6 2 := ⟨_, rfl, by decide, cw_X5, "TitleFinder$Title", bw 530 (by decide +kernel) rfl, Or.inl rfl⟩
set_option maxRecDepth 20000 in
theorem p_X5_18 : mFp RX5 18 6 2 (.int) true := ⟨_, tyX5, rfl, by decide, cw_X5, ⟨"TitleFinder$Title", bw 530 (by decide +kernel) rfl, Or.inl rfl⟩, tyX5_ok, nmX5, rfl, rfl, fun h => by first | rfl | exact absurd h (by decide)⟩
set_option maxRecDepth 20000 in
theorem f_X6_10 : mF RX6 10 7 0 := ⟨_, rfl, by decide, cw_X6, "TitleFinder", bw 255 (by decide +kernel) rfl, Or.inl rfl⟩
set_option maxRecDepth 20000 in
theorem p_X6_10 : mFp RX6 10 7 0 (.object "TitleFinder$State") true := ⟨_, tyX6, rfl, by decide, cw_X6, ⟨"TitleFinder", bw 255 (by decide +kernel) rfl, Or.inl rfl⟩, tyX6_ok, nmX6, rfl, rfl, fun h => by first | rfl | exact absurd h (by decide)⟩
set_option maxRecDepth 20000 in
theorem f_X6_16 : mF RX6 16 7 1 := ⟨_, rfl, by decide, cw_X6, "TitleFinder", bw 256 (by decide +kernel) rfl, Or.inl rfl⟩
set_option maxRecDepth 20000 in
theorem p_X6_16 : mFp RX6 16 7 1 (.object "TitleFinder$State") true := ⟨_, tyX6, rfl, by decide, cw_X6, ⟨"TitleFinder", bw 256 (by decide +kernel) rfl, Or.inl rfl⟩, tyX6_ok, nmX6, rfl, rfl, fun h => by first | rfl | exact absurd h (by decide)⟩
set_option maxRecDepth 20000 in
theorem f_X6_22 : mF RX6 22 7 2 := ⟨_, rfl, by decide, cw_X6, "TitleFinder", bw 257 (by decide +kernel) rfl, Or.inl rfl⟩
set_option maxRecDepth 20000 in
theorem p_X6_22 : mFp RX6 22 7 2 (.object "TitleFinder$History") true := ⟨_, tyX6, rfl, by decide, cw_X6, ⟨"TitleFinder", bw 257 (by decide +kernel) rfl, Or.inl rfl⟩, tyX6_ok, nmX6, rfl, rfl, fun h => by first | rfl | exact absurd h (by decide)⟩
set_option maxRecDepth 20000 in
theorem f_X6_29 : mF RX6 29 7 3 := ⟨_, rfl, by decide, cw_X6, "TitleFinder", bw 258 (by decide +kernel) rfl, Or.inl rfl⟩
set_option maxRecDepth 20000 in
theorem p_X6_29 : mFp RX6 29 7 3 (.object "TitleFinder$Text") true := ⟨_, tyX6, rfl, by decide, cw_X6, ⟨"TitleFinder", bw 258 (by decide +kernel) rfl, Or.inl rfl⟩, tyX6_ok, nmX6, rfl, rfl, fun h => by first | rfl | exact absurd h (by decide)⟩
set_option maxRecDepth 20000 in
theorem f_X6_36 : mF RX6 36 7 4 := ⟨_, rfl, by decide, cw_X6, "TitleFinder", bw 259 (by decide +kernel) rfl, Or.inl rfl⟩
set_option maxRecDepth 20000 in
theorem p_X6_36 : mFp RX6 36 7 4 (.object "TitleFinder$Ranking") true := ⟨_, tyX6, rfl, by decide, cw_X6, ⟨"TitleFinder", bw 259 (by decide +kernel) rfl, Or.inl rfl⟩, tyX6_ok, nmX6, rfl, rfl, fun h => by first | rfl | exact absurd h (by decide)⟩
set_option maxRecDepth 20000 in
theorem f_X6_43 : mF RX6 43 7 5 := ⟨_, rfl, by decide, cw_X6, "TitleFinder", bw 260 (by decide +kernel) rfl, Or.inl rfl⟩
set_option maxRecDepth 20000 in
theorem p_X6_43 : mFp RX6 43 7 5 (.object "TitleFinder$Study") true := ⟨_, tyX6, rfl, by decide, cw_X6, ⟨"TitleFinder", bw 260 (by decide +kernel) rfl, Or.inl rfl⟩, tyX6_ok, nmX6, rfl, rfl, fun h => by first | rfl | exact absurd h (by decide)⟩
set_option maxRecDepth 20000 in
theorem f_X6_51 : mF RX6 51 5 1 := ⟨_, rfl, by decide, cw_X4, "TitleFinder$Text", bw 186 (by decide +kernel) rfl, Or.inl rfl⟩
set_option maxRecDepth 20000 in
theorem f_X6_79 : mF RX6 79 5 3 := ⟨_, rfl, by decide, cw_X4, "TitleFinder$Text", bw 188 (by decide +kernel) rfl, Or.inl rfl⟩
set_option maxRecDepth 20000 in
theorem f_X6_90 : mF RX6 90 5 4 := ⟨_, rfl, by decide, cw_X4, "TitleFinder$Text", bw 190 (by decide +kernel) rfl, Or.inl rfl⟩
set_option maxRecDepth 20000 in
theorem f_X6_97 : mF RX6 97 3 3 := ⟨_, rfl, by decide, cw_X2, "TitleFinder$State", bw 143 (by decide +kernel) rfl, Or.inl rfl⟩
set_option maxRecDepth 20000 in
theorem p_X6_97 : mFp RX6 97 3 3 (.int) false := ⟨_, tyX2, rfl, by decide, cw_X2, ⟨"TitleFinder$State", bw 143 (by decide +kernel) rfl, Or.inl rfl⟩, tyX2_ok, nmX2, rfl, rfl, fun h => by first | rfl | exact absurd h (by decide)⟩
set_option maxRecDepth 20000 in
theorem f_X6_100 : mF RX6 100 3 4 := ⟨_, rfl, by decide, cw_X2, "TitleFinder$State", bw 145 (by decide +kernel) rfl, Or.inl rfl⟩
set_option maxRecDepth 20000 in
theorem p_X6_100 : mFp RX6 100 3 4 (.int) false := ⟨_, tyX2, rfl, by decide, cw_X2, ⟨"TitleFinder$State", bw 145 (by decide +kernel) rfl, Or.inl rfl⟩, tyX2_ok, nmX2, rfl, rfl, fun h => by first | rfl | exact absurd h (by decide)⟩
set_option maxRecDepth 20000 in
theorem f_X6_110 : mF RX6 110 3 2 := ⟨_, rfl, by decide, cw_X2, "TitleFinder$State", bw 139 (by decide +kernel) rfl, Or.inl rfl⟩
set_option maxRecDepth 20000 in
theorem p_X6_110 : mFp RX6 110 3 2 (.int) false := ⟨_, tyX2, rfl, by decide, cw_X2, ⟨"TitleFinder$State", bw 139 (by decide +kernel) rfl, Or.inl rfl⟩, tyX2_ok, nmX2, rfl, rfl, fun h => by first | rfl | exact absurd h (by decide)⟩
set_option maxRecDepth 20000 in
theorem f_X6_119 : mF RX6 119 3 0 := ⟨_, rfl, by decide, cw_X2, "TitleFinder$State", bw 135 (by decide +kernel) rfl, Or.inl rfl⟩
set_option maxRecDepth 20000 in
theorem f_X6_144 : mF RX6 144 6 0 := ⟨_, rfl, by decide, cw_X5, "TitleFinder$Title", bw 527 (by decide +kernel) rfl, Or.inl rfl⟩
set_option maxRecDepth 20000 in
theorem f_X6_156 : mF RX6 156 6 1 := ⟨_, rfl, by decide, cw_X5, "TitleFinder$Title", bw 529 (by decide +kernel) rfl, Or.inl rfl⟩
set_option maxRecDepth 20000 in
theorem f_X6_159 : mF RX6 159 6 2 := ⟨_, rfl, by decide, cw_X5, "TitleFinder$Title", bw 532 (by decide +kernel) rfl, Or.inl rfl⟩
set_option maxRecDepth 20000 in
theorem f_X6_165 : mF RX6 165 4 1 := ⟨_, rfl, by decide, cw_X3, "TitleFinder$Study", bw 237 (by decide +kernel) rfl, Or.inl rfl⟩
set_option maxRecDepth 20000 in
theorem f_X6_168 : mF RX6 168 4 2 := ⟨_, rfl, by decide, cw_X3, "TitleFinder$Study", bw 239 (by decide +kernel) rfl, Or.inl rfl⟩
set_option maxRecDepth 20000 in
theorem f_X6_174 : mF RX6 174 4 3 := ⟨_, rfl, by decide, cw_X3, "TitleFinder$Study", bw 241 (by decide +kernel) rfl, Or.inl rfl⟩
set_option maxRecDepth 20000 in
theorem f_X6_177 : mF RX6 177 4 4 := ⟨_, rfl, by decide, cw_X3, "TitleFinder$Study", bw 243 (by decide +kernel) rfl, Or.inl rfl⟩
set_option maxRecDepth 20000 in
theorem f_X6_202 : mF RX6 202 3 1 := ⟨_, rfl, by decide, cw_X2, "TitleFinder$State", bw 137 (by decide +kernel) rfl, Or.inl rfl⟩
set_option maxRecDepth 20000 in
theorem f_X6_208 : mF RX6 208 2 2 := ⟨_, rfl, by decide, cw_X1, "TitleFinder$Ranking", bw 218 (by decide +kernel) rfl, Or.inl rfl⟩
set_option maxRecDepth 20000 in
theorem f_X6_225 : mF RX6 225 1 2 := ⟨_, rfl, by decide, cw_X0, "TitleFinder$History", bw 170 (by decide +kernel) rfl, Or.inl rfl⟩
set_option maxRecDepth 20000 in
theorem f_X7_7 : mF RX7 7 8 0 := ⟨_, rfl, by decide, cw_X7, "TitleFinderModel", bw 842 (by decide +kernel) rfl, Or.inl rfl⟩
set_option maxRecDepth 20000 in
theorem p_X7_7 : mFp RX7 7 8 0 (.array .int) true := ⟨_, tyX7, rfl, by decide, cw_X7, ⟨"TitleFinderModel", bw 842 (by decide +kernel) rfl, Or.inl rfl⟩, tyX7_ok, nmX7, rfl, rfl, fun h => by first | rfl | exact absurd h (by decide)⟩
set_option maxRecDepth 20000 in
theorem f_X7_13 : mF RX7 13 8 1 := ⟨_, rfl, by decide, cw_X7, "TitleFinderModel", bw 843 (by decide +kernel) rfl, Or.inl rfl⟩
set_option maxRecDepth 20000 in
theorem p_X7_13 : mFp RX7 13 8 1 (.array .int) true := ⟨_, tyX7, rfl, by decide, cw_X7, ⟨"TitleFinderModel", bw 843 (by decide +kernel) rfl, Or.inl rfl⟩, tyX7_ok, nmX7, rfl, rfl, fun h => by first | rfl | exact absurd h (by decide)⟩
set_option maxRecDepth 20000 in
theorem f_X7_16 : mF RX7 16 8 3 := ⟨_, rfl, by decide, cw_X7, "TitleFinderModel", bw 845 (by decide +kernel) rfl, Or.inl rfl⟩
set_option maxRecDepth 20000 in
theorem p_X7_16 : mFp RX7 16 8 3 (.array .int) true := ⟨_, tyX7, rfl, by decide, cw_X7, ⟨"TitleFinderModel", bw 845 (by decide +kernel) rfl, Or.inl rfl⟩, tyX7_ok, nmX7, rfl, rfl, fun h => by first | rfl | exact absurd h (by decide)⟩
set_option maxRecDepth 20000 in
theorem f_X7_19 : mF RX7 19 8 5 := ⟨_, rfl, by decide, cw_X7, "TitleFinderModel", bw 847 (by decide +kernel) rfl, Or.inl rfl⟩
set_option maxRecDepth 20000 in
theorem p_X7_19 : mFp RX7 19 8 5 (.array .int) true := ⟨_, tyX7, rfl, by decide, cw_X7, ⟨"TitleFinderModel", bw 847 (by decide +kernel) rfl, Or.inl rfl⟩, tyX7_ok, nmX7, rfl, rfl, fun h => by first | rfl | exact absurd h (by decide)⟩
set_option maxRecDepth 20000 in
theorem f_X7_22 : mF RX7 22 8 6 := ⟨_, rfl, by decide, cw_X7, "TitleFinderModel", bw 848 (by decide +kernel) rfl, Or.inl rfl⟩
set_option maxRecDepth 20000 in
theorem p_X7_22 : mFp RX7 22 8 6 (.array .int) true := ⟨_, tyX7, rfl, by decide, cw_X7, ⟨"TitleFinderModel", bw 848 (by decide +kernel) rfl, Or.inl rfl⟩, tyX7_ok, nmX7, rfl, rfl, fun h => by first | rfl | exact absurd h (by decide)⟩
set_option maxRecDepth 20000 in
theorem f_X7_25 : mF RX7 25 8 7 := ⟨_, rfl, by decide, cw_X7, "TitleFinderModel", bw 849 (by decide +kernel) rfl, Or.inl rfl⟩
set_option maxRecDepth 20000 in
theorem p_X7_25 : mFp RX7 25 8 7 (.array .int) true := ⟨_, tyX7, rfl, by decide, cw_X7, ⟨"TitleFinderModel", bw 849 (by decide +kernel) rfl, Or.inl rfl⟩, tyX7_ok, nmX7, rfl, rfl, fun h => by first | rfl | exact absurd h (by decide)⟩
set_option maxRecDepth 20000 in
theorem f_X7_28 : mF RX7 28 8 9 := ⟨_, rfl, by decide, cw_X7, "TitleFinderModel", bw 851 (by decide +kernel) rfl, Or.inl rfl⟩
set_option maxRecDepth 20000 in
theorem p_X7_28 : mFp RX7 28 8 9 (.array .int) true := ⟨_, tyX7, rfl, by decide, cw_X7, ⟨"TitleFinderModel", bw 851 (by decide +kernel) rfl, Or.inl rfl⟩, tyX7_ok, nmX7, rfl, rfl, fun h => by first | rfl | exact absurd h (by decide)⟩
set_option maxRecDepth 20000 in
theorem f_X7_31 : mF RX7 31 8 11 := ⟨_, rfl, by decide, cw_X7, "TitleFinderModel", bw 853 (by decide +kernel) rfl, Or.inl rfl⟩
set_option maxRecDepth 20000 in
theorem p_X7_31 : mFp RX7 31 8 11 (.array .int) true := ⟨_, tyX7, rfl, by decide, cw_X7, ⟨"TitleFinderModel", bw 853 (by decide +kernel) rfl, Or.inl rfl⟩, tyX7_ok, nmX7, rfl, rfl, fun h => by first | rfl | exact absurd h (by decide)⟩
set_option maxRecDepth 20000 in
theorem f_X7_34 : mF RX7 34 8 14 := ⟨_, rfl, by decide, cw_X7, "TitleFinderModel", bw 856 (by decide +kernel) rfl, Or.inl rfl⟩
set_option maxRecDepth 20000 in
theorem p_X7_34 : mFp RX7 34 8 14 (.array .int) true := ⟨_, tyX7, rfl, by decide, cw_X7, ⟨"TitleFinderModel", bw 856 (by decide +kernel) rfl, Or.inl rfl⟩, tyX7_ok, nmX7, rfl, rfl, fun h => by first | rfl | exact absurd h (by decide)⟩
set_option maxRecDepth 20000 in
theorem f_X7_37 : mF RX7 37 8 15 := ⟨_, rfl, by decide, cw_X7, "TitleFinderModel", bw 857 (by decide +kernel) rfl, Or.inl rfl⟩
set_option maxRecDepth 20000 in
theorem p_X7_37 : mFp RX7 37 8 15 (.array .int) true := ⟨_, tyX7, rfl, by decide, cw_X7, ⟨"TitleFinderModel", bw 857 (by decide +kernel) rfl, Or.inl rfl⟩, tyX7_ok, nmX7, rfl, rfl, fun h => by first | rfl | exact absurd h (by decide)⟩
set_option maxRecDepth 20000 in
theorem f_X7_40 : mF RX7 40 8 16 := ⟨_, rfl, by decide, cw_X7, "TitleFinderModel", bw 858 (by decide +kernel) rfl, Or.inl rfl⟩
set_option maxRecDepth 20000 in
theorem p_X7_40 : mFp RX7 40 8 16 (.array .int) true := ⟨_, tyX7, rfl, by decide, cw_X7, ⟨"TitleFinderModel", bw 858 (by decide +kernel) rfl, Or.inl rfl⟩, tyX7_ok, nmX7, rfl, rfl, fun h => by first | rfl | exact absurd h (by decide)⟩
set_option maxRecDepth 20000 in
theorem f_X7_43 : mF RX7 43 8 2 := ⟨_, rfl, by decide, cw_X7, "TitleFinderModel", bw 844 (by decide +kernel) rfl, Or.inl rfl⟩
set_option maxRecDepth 20000 in
theorem p_X7_43 : mFp RX7 43 8 2 (.int) false := ⟨_, tyX7, rfl, by decide, cw_X7, ⟨"TitleFinderModel", bw 844 (by decide +kernel) rfl, Or.inl rfl⟩, tyX7_ok, nmX7, rfl, rfl, fun h => by first | rfl | exact absurd h (by decide)⟩
set_option maxRecDepth 20000 in
theorem f_X7_72 : mF RX7 72 8 8 := ⟨_, rfl, by decide, cw_X7, "TitleFinderModel", bw 850 (by decide +kernel) rfl, Or.inl rfl⟩
set_option maxRecDepth 20000 in
theorem p_X7_72 : mFp RX7 72 8 8 (.int) false := ⟨_, tyX7, rfl, by decide, cw_X7, ⟨"TitleFinderModel", bw 850 (by decide +kernel) rfl, Or.inl rfl⟩, tyX7_ok, nmX7, rfl, rfl, fun h => by first | rfl | exact absurd h (by decide)⟩
set_option maxRecDepth 20000 in
theorem f_X7_93 : mF RX7 93 8 10 := ⟨_, rfl, by decide, cw_X7, "TitleFinderModel", bw 852 (by decide +kernel) rfl, Or.inl rfl⟩
set_option maxRecDepth 20000 in
theorem p_X7_93 : mFp RX7 93 8 10 (.int) false := ⟨_, tyX7, rfl, by decide, cw_X7, ⟨"TitleFinderModel", bw 852 (by decide +kernel) rfl, Or.inl rfl⟩, tyX7_ok, nmX7, rfl, rfl, fun h => by first | rfl | exact absurd h (by decide)⟩
set_option maxRecDepth 20000 in
theorem f_X7_110 : mF RX7 110 8 12 := ⟨_, rfl, by decide, cw_X7, "TitleFinderModel", bw 854 (by decide +kernel) rfl, Or.inl rfl⟩
set_option maxRecDepth 20000 in
theorem p_X7_110 : mFp RX7 110 8 12 (.int) false := ⟨_, tyX7, rfl, by decide, cw_X7, ⟨"TitleFinderModel", bw 854 (by decide +kernel) rfl, Or.inl rfl⟩, tyX7_ok, nmX7, rfl, rfl, fun h => by first | rfl | exact absurd h (by decide)⟩
set_option maxRecDepth 20000 in
theorem f_X7_113 : mF RX7 113 8 13 := ⟨_, rfl, by decide, cw_X7, "TitleFinderModel", bw 855 (by decide +kernel) rfl, Or.inl rfl⟩
set_option maxRecDepth 20000 in
theorem p_X7_113 : mFp RX7 113 8 13 (.int) false := ⟨_, tyX7, rfl, by decide, cw_X7, ⟨"TitleFinderModel", bw 855 (by decide +kernel) rfl, Or.inl rfl⟩, tyX7_ok, nmX7, rfl, rfl, fun h => by first | rfl | exact absurd h (by decide)⟩
set_option maxRecDepth 20000 in
theorem f_X7_120 : mF RX7 120 8 4 := ⟨_, rfl, by decide, cw_X7, "TitleFinderModel", bw 846 (by decide +kernel) rfl, Or.inl rfl⟩
set_option maxRecDepth 20000 in
theorem p_X7_120 : mFp RX7 120 8 4 (.int) false := ⟨_, tyX7, rfl, by decide, cw_X7, ⟨"TitleFinderModel", bw 846 (by decide +kernel) rfl, Or.inl rfl⟩, tyX7_ok, nmX7, rfl, rfl, fun h => by first | rfl | exact absurd h (by decide)⟩
set_option maxRecDepth 20000 in
theorem f_X7_123 : mF RX7 123 8 17 := ⟨_, rfl, by decide, cw_X7, "TitleFinderModel", bw 859 (by decide +kernel) rfl, Or.inl rfl⟩
set_option maxRecDepth 20000 in
theorem p_X7_123 : mFp RX7 123 8 17 (.int) false := ⟨_, tyX7, rfl, by decide, cw_X7, ⟨"TitleFinderModel", bw 859 (by decide +kernel) rfl, Or.inl rfl⟩, tyX7_ok, nmX7, rfl, rfl, fun h => by first | rfl | exact absurd h (by decide)⟩
set_option maxRecDepth 20000 in
theorem f_X7_134 : mF RX7 134 8 20 := ⟨_, rfl, by decide, cw_X7, "TitleFinderModel", bw 862 (by decide +kernel) rfl, Or.inl rfl⟩
set_option maxRecDepth 20000 in
theorem p_X7_134 : mFp RX7 134 8 20 (.int) false := ⟨_, tyX7, rfl, by decide, cw_X7, ⟨"TitleFinderModel", bw 862 (by decide +kernel) rfl, Or.inl rfl⟩, tyX7_ok, nmX7, rfl, rfl, fun h => by first | rfl | exact absurd h (by decide)⟩
set_option maxRecDepth 20000 in
theorem f_X7_140 : mF RX7 140 8 21 := ⟨_, rfl, by decide, cw_X7, "TitleFinderModel", bw 863 (by decide +kernel) rfl, Or.inl rfl⟩
set_option maxRecDepth 20000 in
theorem p_X7_140 : mFp RX7 140 8 21 (.int) false := ⟨_, tyX7, rfl, by decide, cw_X7, ⟨"TitleFinderModel", bw 863 (by decide +kernel) rfl, Or.inl rfl⟩, tyX7_ok, nmX7, rfl, rfl, fun h => by first | rfl | exact absurd h (by decide)⟩
set_option maxRecDepth 20000 in
theorem f_X7_143 : mF RX7 143 8 19 := ⟨_, rfl, by decide, cw_X7, "TitleFinderModel", bw 861 (by decide +kernel) rfl, Or.inl rfl⟩
set_option maxRecDepth 20000 in
theorem p_X7_143 : mFp RX7 143 8 19 (.int) false := ⟨_, tyX7, rfl, by decide, cw_X7, ⟨"TitleFinderModel", bw 861 (by decide +kernel) rfl, Or.inl rfl⟩, tyX7_ok, nmX7, rfl, rfl, fun h => by first | rfl | exact absurd h (by decide)⟩
set_option maxRecDepth 20000 in
theorem f_X7_164 : mF RX7 164 8 18 := ⟨_, rfl, by decide, cw_X7, "TitleFinderModel", bw 860 (by decide +kernel) rfl, Or.inl rfl⟩
set_option maxRecDepth 20000 in
theorem p_X7_164 : mFp RX7 164 8 18 (.int) false := ⟨_, tyX7, rfl, by decide, cw_X7, ⟨"TitleFinderModel", bw 860 (by decide +kernel) rfl, Or.inl rfl⟩, tyX7_ok, nmX7, rfl, rfl, fun h => by first | rfl | exact absurd h (by decide)⟩
set_option maxRecDepth 20000 in
theorem n_X0_9 : mN RX0 9 3 [.null, .null, .int 0, .int 0, .int 0] := ⟨_, tyX2, rfl, cw_X2, tyX2_ok, bw 164 (by decide +kernel) rfl, bw 101 (by decide +kernel) rfl, bw 73 (by decide +kernel) rfl, by decide +kernel, rfl⟩
set_option maxRecDepth 20000 in
theorem n_X2_9 : mN RX2 9 0 [.int 0, .null, .int 0] := ⟨_, tyJx4a65c, rfl, cw_Jx4a65c, tyJx4a65c_ok, bw 106 (by decide +kernel) rfl, bw 107 (by decide +kernel) rfl, bw 76 (by decide +kernel) rfl, by decide +kernel, rfl⟩
set_option maxRecDepth 20000 in
theorem n_X5_10 : mN RX5 10 6 [.null, .null, .int 0] := ⟨_, tyX5, rfl, cw_X5, tyX5_ok, bw 513 (by decide +kernel) rfl, bw 514 (by decide +kernel) rfl, bw 91 (by decide +kernel) rfl, by decide +kernel, rfl⟩
set_option maxRecDepth 20000 in
theorem n_X6_7 : mN RX6 7 3 [.null, .null, .int 0, .int 0, .int 0] := ⟨_, tyX2, rfl, cw_X2, tyX2_ok, bw 100 (by decide +kernel) rfl, bw 101 (by decide +kernel) rfl, bw 73 (by decide +kernel) rfl, by decide +kernel, rfl⟩
set_option maxRecDepth 20000 in
theorem n_X6_19 : mN RX6 19 1 [.null, .int 0, .int 0] := ⟨_, tyX0, rfl, cw_X0, tyX0_ok, bw 158 (by decide +kernel) rfl, bw 159 (by decide +kernel) rfl, bw 77 (by decide +kernel) rfl, by decide +kernel, rfl⟩
set_option maxRecDepth 20000 in
theorem n_X6_26 : mN RX6 26 5 [.null, .int 0, .int 0, .int 0, .int 0, .int 0, .int 0] := ⟨_, tyX4, rfl, cw_X4, tyX4_ok, bw 178 (by decide +kernel) rfl, bw 179 (by decide +kernel) rfl, bw 78 (by decide +kernel) rfl, by decide +kernel, rfl⟩
set_option maxRecDepth 20000 in
theorem n_X6_33 : mN RX6 33 2 [.null, .null, .int 0] := ⟨_, tyX1, rfl, cw_X1, tyX1_ok, bw 209 (by decide +kernel) rfl, bw 210 (by decide +kernel) rfl, bw 79 (by decide +kernel) rfl, by decide +kernel, rfl⟩
set_option maxRecDepth 20000 in
theorem n_X6_40 : mN RX6 40 4 [.null, .int 0, .int 0, .int 0, .int 0] := ⟨_, tyX3, rfl, cw_X3, tyX3_ok, bw 227 (by decide +kernel) rfl, bw 228 (by decide +kernel) rfl, bw 80 (by decide +kernel) rfl, by decide +kernel, rfl⟩
set_option maxRecDepth 20000 in
theorem n_L_7 : mN RL 7 7 [.null, .null, .null, .null, .null, .null] := ⟨_, tyX6, rfl, cw_X6, tyX6_ok, bw 92 (by decide +kernel) rfl, bw 93 (by decide +kernel) rfl, bw 72 (by decide +kernel) rfl, by decide +kernel, rfl⟩
set_option maxRecDepth 20000 in
theorem n_L_10 : mN RL 10 8 [.null, .null, .int 0, .null, .int 0, .null, .null, .null, .int 0, .null, .int 0, .null, .int 0, .int 0, .null, .null, .null, .int 0, .int 0, .int 0, .int 0, .int 0] := ⟨_, tyX7, rfl, cw_X7, tyX7_ok, bw 836 (by decide +kernel) rfl, bw 837 (by decide +kernel) rfl, bw 81 (by decide +kernel) rfl, by decide +kernel, rfl⟩
set_option maxRecDepth 20000 in
theorem m_X0_17 : mCn RX0 17 iX2_init 0 := ⟨⟨bw 104 (by decide +kernel) rfl, bw 73 (by decide +kernel) rfl, ⟨by decide +kernel, by decide +kernel⟩, by decide +kernel⟩, ⟨"TitleFinder", by decide +kernel⟩, bw 103 (by decide +kernel) rfl, rfl, rfl⟩
set_option maxRecDepth 20000 in
theorem m_X0_22 : mCv RX0 22 iX2_copyFrom 1 := ⟨⟨bw 423 (by decide +kernel) rfl, bw 73 (by decide +kernel) rfl, ⟨by decide +kernel, by decide +kernel⟩, by decide +kernel⟩, bw 420 (by decide +kernel) rfl, bw 421 (by decide +kernel) rfl, bw 422 (by decide +kernel) rfl⟩
set_option maxRecDepth 20000 in
theorem m_X1_28 : mCv RX1 28 iJx4a65c_size_8abf5 0 := ⟨⟨bw 431 (by decide +kernel) rfl, bw 76 (by decide +kernel) rfl, ⟨by decide +kernel, by decide +kernel⟩, by decide +kernel⟩, bw 590 (by decide +kernel) rfl, bw 429 (by decide +kernel) rfl, bw 430 (by decide +kernel) rfl⟩
set_option maxRecDepth 20000 in
theorem m_X1_34 : mCv RX1 34 iX2_placeOfMatch 1 := ⟨⟨bw 594 (by decide +kernel) rfl, bw 73 (by decide +kernel) rfl, ⟨by decide +kernel, by decide +kernel⟩, by decide +kernel⟩, bw 591 (by decide +kernel) rfl, bw 592 (by decide +kernel) rfl, bw 593 (by decide +kernel) rfl⟩
set_option maxRecDepth 20000 in
theorem m_X1_38 : mCv RX1 38 iX1_insert 3 := ⟨⟨bw 614 (by decide +kernel) rfl, bw 79 (by decide +kernel) rfl, ⟨by decide +kernel, by decide +kernel⟩, by decide +kernel⟩, bw 611 (by decide +kernel) rfl, bw 613 (by decide +kernel) rfl, bw 14 (by decide +kernel) rfl⟩
set_option maxRecDepth 20000 in
theorem m_X1_42 : mCv RX1 42 iX2_comesBefore 4 := ⟨⟨bw 618 (by decide +kernel) rfl, bw 73 (by decide +kernel) rfl, ⟨by decide +kernel, by decide +kernel⟩, by decide +kernel⟩, bw 615 (by decide +kernel) rfl, bw 616 (by decide +kernel) rfl, bw 617 (by decide +kernel) rfl⟩
set_option maxRecDepth 20000 in
theorem m_X1_46 : mCv RX1 46 iX1_has 1 := ⟨⟨bw 626 (by decide +kernel) rfl, bw 79 (by decide +kernel) rfl, ⟨by decide +kernel, by decide +kernel⟩, by decide +kernel⟩, bw 631 (by decide +kernel) rfl, bw 624 (by decide +kernel) rfl, bw 625 (by decide +kernel) rfl⟩
set_option maxRecDepth 20000 in
theorem m_X2_11 : mCi RX2 11 iJx4a65c_init_da8c8 0 := ⟨⟨bw 110 (by decide +kernel) rfl, bw 76 (by decide +kernel) rfl, ⟨by decide +kernel, by decide +kernel⟩, by decide +kernel⟩, bw 108 (by decide +kernel) rfl, bw 109 (by decide +kernel) rfl, rfl, rfl⟩
set_option maxRecDepth 20000 in
theorem m_X2_22 : mCv RX2 22 iJx4a65c_clear_da8c8 0 := ⟨⟨bw 427 (by decide +kernel) rfl, bw 76 (by decide +kernel) rfl, ⟨by decide +kernel, by decide +kernel⟩, by decide +kernel⟩, bw 424 (by decide +kernel) rfl, bw 425 (by decide +kernel) rfl, bw 426 (by decide +kernel) rfl⟩
set_option maxRecDepth 20000 in
theorem m_X2_25 : mCv RX2 25 iJx4a65c_size_8abf5 0 := ⟨⟨bw 431 (by decide +kernel) rfl, bw 76 (by decide +kernel) rfl, ⟨by decide +kernel, by decide +kernel⟩, by decide +kernel⟩, bw 428 (by decide +kernel) rfl, bw 429 (by decide +kernel) rfl, bw 430 (by decide +kernel) rfl⟩
set_option maxRecDepth 20000 in
theorem m_X2_29 : mCv RX2 29 iJx4a65c_get_915e3 1 := ⟨⟨bw 435 (by decide +kernel) rfl, bw 76 (by decide +kernel) rfl, ⟨by decide +kernel, by decide +kernel⟩, by decide +kernel⟩, bw 432 (by decide +kernel) rfl, bw 433 (by decide +kernel) rfl, bw 434 (by decide +kernel) rfl⟩
set_option maxRecDepth 20000 in
theorem m_X2_35 : mCv RX2 35 iJx4a65c_add_9ea2d 1 := ⟨⟨bw 448 (by decide +kernel) rfl, bw 76 (by decide +kernel) rfl, ⟨by decide +kernel, by decide +kernel⟩, by decide +kernel⟩, bw 445 (by decide +kernel) rfl, bw 446 (by decide +kernel) rfl, bw 447 (by decide +kernel) rfl⟩
set_option maxRecDepth 20000 in
theorem m_X2_49 : mCv RX2 49 iX5_hasLettersOf 1 := ⟨⟨bw 551 (by decide +kernel) rfl, bw 91 (by decide +kernel) rfl, ⟨by decide +kernel, by decide +kernel⟩, by decide +kernel⟩, bw 548 (by decide +kernel) rfl, bw 549 (by decide +kernel) rfl, bw 550 (by decide +kernel) rfl⟩
set_option maxRecDepth 20000 in
theorem m_X2_53 : mCv RX2 53 iX2_queryEndsWithLetter 0 := ⟨⟨bw 598 (by decide +kernel) rfl, bw 73 (by decide +kernel) rfl, ⟨by decide +kernel, by decide +kernel⟩, by decide +kernel⟩, bw 595 (by decide +kernel) rfl, bw 596 (by decide +kernel) rfl, bw 597 (by decide +kernel) rfl⟩
set_option maxRecDepth 20000 in
theorem m_X2_57 : mCv RX2 57 iX5_placeOf 3 := ⟨⟨bw 602 (by decide +kernel) rfl, bw 91 (by decide +kernel) rfl, ⟨by decide +kernel, by decide +kernel⟩, by decide +kernel⟩, bw 599 (by decide +kernel) rfl, bw 600 (by decide +kernel) rfl, bw 601 (by decide +kernel) rfl⟩
set_option maxRecDepth 20000 in
theorem m_X2_61 : mCv RX2 61 iX5_comesByNameBefore 1 := ⟨⟨bw 622 (by decide +kernel) rfl, bw 91 (by decide +kernel) rfl, ⟨by decide +kernel, by decide +kernel⟩, by decide +kernel⟩, bw 619 (by decide +kernel) rfl, bw 620 (by decide +kernel) rfl, bw 621 (by decide +kernel) rfl⟩
set_option maxRecDepth 20000 in
theorem m_X3_29 : mCv RX3 29 iX2_has 1 := ⟨⟨bw 564 (by decide +kernel) rfl, bw 73 (by decide +kernel) rfl, ⟨by decide +kernel, by decide +kernel⟩, by decide +kernel⟩, bw 671 (by decide +kernel) rfl, bw 562 (by decide +kernel) rfl, bw 563 (by decide +kernel) rfl⟩
set_option maxRecDepth 20000 in
theorem m_X3_39 : mCv RX3 39 iJx4a65c_get_915e3 1 := ⟨⟨bw 435 (by decide +kernel) rfl, bw 76 (by decide +kernel) rfl, ⟨by decide +kernel, by decide +kernel⟩, by decide +kernel⟩, bw 672 (by decide +kernel) rfl, bw 433 (by decide +kernel) rfl, bw 434 (by decide +kernel) rfl⟩
set_option maxRecDepth 20000 in
theorem m_X3_50 : mCv RX3 50 iX5_run 1 := ⟨⟨bw 606 (by decide +kernel) rfl, bw 91 (by decide +kernel) rfl, ⟨by decide +kernel, by decide +kernel⟩, by decide +kernel⟩, bw 674 (by decide +kernel) rfl, bw 604 (by decide +kernel) rfl, bw 605 (by decide +kernel) rfl⟩
set_option maxRecDepth 20000 in
theorem m_X3_54 : mCv RX3 54 iX5_startsPiece 2 := ⟨⟨bw 610 (by decide +kernel) rfl, bw 91 (by decide +kernel) rfl, ⟨by decide +kernel, by decide +kernel⟩, by decide +kernel⟩, bw 675 (by decide +kernel) rfl, bw 608 (by decide +kernel) rfl, bw 609 (by decide +kernel) rfl⟩
set_option maxRecDepth 20000 in
theorem m_X3_58 : mCv RX3 58 iX3_lookAtPiecesFrom 4 := ⟨⟨bw 679 (by decide +kernel) rfl, bw 80 (by decide +kernel) rfl, ⟨by decide +kernel, by decide +kernel⟩, by decide +kernel⟩, bw 676 (by decide +kernel) rfl, bw 678 (by decide +kernel) rfl, bw 15 (by decide +kernel) rfl⟩
set_option maxRecDepth 20000 in
theorem m_X3_62 : mCv RX3 62 iX3_longestWanted 0 := ⟨⟨bw 683 (by decide +kernel) rfl, bw 80 (by decide +kernel) rfl, ⟨by decide +kernel, by decide +kernel⟩, by decide +kernel⟩, bw 680 (by decide +kernel) rfl, bw 682 (by decide +kernel) rfl, bw 16 (by decide +kernel) rfl⟩
set_option maxRecDepth 20000 in
theorem m_X3_72 : mCv RX3 72 iJx4a65c_size_8abf5 0 := ⟨⟨bw 431 (by decide +kernel) rfl, bw 76 (by decide +kernel) rfl, ⟨by decide +kernel, by decide +kernel⟩, by decide +kernel⟩, bw 694 (by decide +kernel) rfl, bw 429 (by decide +kernel) rfl, bw 430 (by decide +kernel) rfl⟩
set_option maxRecDepth 20000 in
theorem m_X3_75 : mCs RX3 75 iX3_findPlaces 6 := ⟨⟨bw 697 (by decide +kernel) rfl, bw 80 (by decide +kernel) rfl, ⟨by decide +kernel, by decide +kernel⟩, by decide +kernel⟩, bw 695 (by decide +kernel) rfl, bw 696 (by decide +kernel) rfl⟩
set_option maxRecDepth 20000 in
theorem m_X3_79 : mCv RX3 79 iX3_hasKey 0 := ⟨⟨bw 687 (by decide +kernel) rfl, bw 80 (by decide +kernel) rfl, ⟨by decide +kernel, by decide +kernel⟩, by decide +kernel⟩, bw 684 (by decide +kernel) rfl, bw 685 (by decide +kernel) rfl, bw 686 (by decide +kernel) rfl⟩
set_option maxRecDepth 20000 in
theorem m_X3_83 : mCv RX3 83 iX3_isKnownBy 3 := ⟨⟨bw 702 (by decide +kernel) rfl, bw 80 (by decide +kernel) rfl, ⟨by decide +kernel, by decide +kernel⟩, by decide +kernel⟩, bw 699 (by decide +kernel) rfl, bw 701 (by decide +kernel) rfl, bw 17 (by decide +kernel) rfl⟩
set_option maxRecDepth 20000 in
theorem m_X3_87 : mCv RX3 87 iX3_hasShortcut 0 := ⟨⟨bw 691 (by decide +kernel) rfl, bw 80 (by decide +kernel) rfl, ⟨by decide +kernel, by decide +kernel⟩, by decide +kernel⟩, bw 688 (by decide +kernel) rfl, bw 689 (by decide +kernel) rfl, bw 690 (by decide +kernel) rfl⟩
set_option maxRecDepth 20000 in
theorem m_X3_90 : mCv RX3 90 iX3_isFirstFor 3 := ⟨⟨bw 710 (by decide +kernel) rfl, bw 80 (by decide +kernel) rfl, ⟨by decide +kernel, by decide +kernel⟩, by decide +kernel⟩, bw 707 (by decide +kernel) rfl, bw 709 (by decide +kernel) rfl, bw 19 (by decide +kernel) rfl⟩
set_option maxRecDepth 20000 in
theorem m_X3_96 : mCs RX3 96 iX5_sameLength 5 := ⟨⟨bw 554 (by decide +kernel) rfl, bw 91 (by decide +kernel) rfl, ⟨by decide +kernel, by decide +kernel⟩, by decide +kernel⟩, bw 698 (by decide +kernel) rfl, bw 553 (by decide +kernel) rfl⟩
set_option maxRecDepth 20000 in
theorem m_X3_100 : mCv RX3 100 iX3_placeOf 2 := ⟨⟨bw 706 (by decide +kernel) rfl, bw 80 (by decide +kernel) rfl, ⟨by decide +kernel, by decide +kernel⟩, by decide +kernel⟩, bw 703 (by decide +kernel) rfl, bw 705 (by decide +kernel) rfl, bw 18 (by decide +kernel) rfl⟩
set_option maxRecDepth 20000 in
theorem m_X3_103 : mCv RX3 103 iX2_comesBefore 4 := ⟨⟨bw 618 (by decide +kernel) rfl, bw 73 (by decide +kernel) rfl, ⟨by decide +kernel, by decide +kernel⟩, by decide +kernel⟩, bw 711 (by decide +kernel) rfl, bw 616 (by decide +kernel) rfl, bw 617 (by decide +kernel) rfl⟩
set_option maxRecDepth 20000 in
theorem m_X4_22 : mCv RX4 22 iX4_rewind 0 := ⟨⟨bw 301 (by decide +kernel) rfl, bw 78 (by decide +kernel) rfl, ⟨by decide +kernel, by decide +kernel⟩, by decide +kernel⟩, bw 298 (by decide +kernel) rfl, bw 299 (by decide +kernel) rfl, bw 300 (by decide +kernel) rfl⟩
set_option maxRecDepth 20000 in
theorem m_X4_25 : mCv RX4 25 iX4_passCommand 0 := ⟨⟨bw 305 (by decide +kernel) rfl, bw 78 (by decide +kernel) rfl, ⟨by decide +kernel, by decide +kernel⟩, by decide +kernel⟩, bw 302 (by decide +kernel) rfl, bw 303 (by decide +kernel) rfl, bw 304 (by decide +kernel) rfl⟩
set_option maxRecDepth 20000 in
theorem m_X4_29 : mCv RX4 29 iX4_passSemicolon 0 := ⟨⟨bw 410 (by decide +kernel) rfl, bw 78 (by decide +kernel) rfl, ⟨by decide +kernel, by decide +kernel⟩, by decide +kernel⟩, bw 407 (by decide +kernel) rfl, bw 408 (by decide +kernel) rfl, bw 409 (by decide +kernel) rfl⟩
set_option maxRecDepth 20000 in
theorem m_X4_32 : mCv RX4 32 iX4_passTitle 0 := ⟨⟨bw 388 (by decide +kernel) rfl, bw 78 (by decide +kernel) rfl, ⟨by decide +kernel, by decide +kernel⟩, by decide +kernel⟩, bw 385 (by decide +kernel) rfl, bw 387 (by decide +kernel) rfl, bw 2 (by decide +kernel) rfl⟩
set_option maxRecDepth 20000 in
theorem m_X4_35 : mCv RX4 35 iX4_passOneOf 2 := ⟨⟨bw 309 (by decide +kernel) rfl, bw 78 (by decide +kernel) rfl, ⟨by decide +kernel, by decide +kernel⟩, by decide +kernel⟩, bw 306 (by decide +kernel) rfl, bw 308 (by decide +kernel) rfl, bw 0 (by decide +kernel) rfl⟩
set_option maxRecDepth 20000 in
theorem m_X4_42 : mCv RX4 42 iX4_passNumber 0 := ⟨⟨bw 402 (by decide +kernel) rfl, bw 78 (by decide +kernel) rfl, ⟨by decide +kernel, by decide +kernel⟩, by decide +kernel⟩, bw 399 (by decide +kernel) rfl, bw 401 (by decide +kernel) rfl, bw 4 (by decide +kernel) rfl⟩
set_option maxRecDepth 20000 in
theorem m_X4_45 : mCv RX4 45 iX4_passName 2 := ⟨⟨bw 406 (by decide +kernel) rfl, bw 78 (by decide +kernel) rfl, ⟨by decide +kernel, by decide +kernel⟩, by decide +kernel⟩, bw 403 (by decide +kernel) rfl, bw 405 (by decide +kernel) rfl, bw 5 (by decide +kernel) rfl⟩
set_option maxRecDepth 20000 in
theorem m_X4_49 : mCv RX4 49 iX4_hasSign 0 := ⟨⟨bw 392 (by decide +kernel) rfl, bw 78 (by decide +kernel) rfl, ⟨by decide +kernel, by decide +kernel⟩, by decide +kernel⟩, bw 389 (by decide +kernel) rfl, bw 391 (by decide +kernel) rfl, bw 3 (by decide +kernel) rfl⟩
set_option maxRecDepth 20000 in
theorem m_X4_55 : mCs RX4 55 iX4_isLetter 1 := ⟨⟨bw 395 (by decide +kernel) rfl, bw 78 (by decide +kernel) rfl, ⟨by decide +kernel, by decide +kernel⟩, by decide +kernel⟩, bw 393 (by decide +kernel) rfl, bw 394 (by decide +kernel) rfl⟩
set_option maxRecDepth 20000 in
theorem m_X4_65 : mCs RX4 65 iX4_isDigit 1 := ⟨⟨bw 398 (by decide +kernel) rfl, bw 78 (by decide +kernel) rfl, ⟨by decide +kernel, by decide +kernel⟩, by decide +kernel⟩, bw 396 (by decide +kernel) rfl, bw 397 (by decide +kernel) rfl⟩
set_option maxRecDepth 20000 in
theorem m_X4_68 : mCs RX4 68 iX4_word 1 := ⟨⟨bw 312 (by decide +kernel) rfl, bw 78 (by decide +kernel) rfl, ⟨by decide +kernel, by decide +kernel⟩, by decide +kernel⟩, bw 310 (by decide +kernel) rfl, bw 311 (by decide +kernel) rfl⟩
set_option maxRecDepth 20000 in
theorem m_X4_72 : mCv RX4 72 iX4_sameLength 1 := ⟨⟨bw 333 (by decide +kernel) rfl, bw 78 (by decide +kernel) rfl, ⟨by decide +kernel, by decide +kernel⟩, by decide +kernel⟩, bw 330 (by decide +kernel) rfl, bw 332 (by decide +kernel) rfl, bw 1 (by decide +kernel) rfl⟩
set_option maxRecDepth 20000 in
theorem m_X4_76 : mCv RX4 76 iJ0_length_8abf5 0 := ⟨⟨bw 337 (by decide +kernel) rfl, bw 82 (by decide +kernel) rfl, ⟨by decide +kernel, by decide +kernel⟩, by decide +kernel⟩, bw 334 (by decide +kernel) rfl, bw 335 (by decide +kernel) rfl, bw 336 (by decide +kernel) rfl⟩
set_option maxRecDepth 20000 in
theorem m_X4_86 : mCv RX4 86 iJ0_charAt_5068e 1 := ⟨⟨bw 347 (by decide +kernel) rfl, bw 82 (by decide +kernel) rfl, ⟨by decide +kernel, by decide +kernel⟩, by decide +kernel⟩, bw 344 (by decide +kernel) rfl, bw 345 (by decide +kernel) rfl, bw 346 (by decide +kernel) rfl⟩
set_option maxRecDepth 20000 in
theorem m_X4_104 : mCs RX4 104 iX4_name 1 := ⟨⟨bw 322 (by decide +kernel) rfl, bw 78 (by decide +kernel) rfl, ⟨by decide +kernel, by decide +kernel⟩, by decide +kernel⟩, bw 320 (by decide +kernel) rfl, bw 321 (by decide +kernel) rfl⟩
set_option maxRecDepth 20000 in
theorem m_X4_119 : mCs RX4 119 iX5_unused 1 := ⟨⟨bw 512 (by decide +kernel) rfl, bw 91 (by decide +kernel) rfl, ⟨by decide +kernel, by decide +kernel⟩, by decide +kernel⟩, bw 510 (by decide +kernel) rfl, bw 511 (by decide +kernel) rfl⟩
set_option maxRecDepth 20000 in
theorem m_X4_130 : mCv RX4 130 iX2_appendToQuery 1 := ⟨⟨bw 581 (by decide +kernel) rfl, bw 73 (by decide +kernel) rfl, ⟨by decide +kernel, by decide +kernel⟩, by decide +kernel⟩, bw 578 (by decide +kernel) rfl, bw 579 (by decide +kernel) rfl, bw 580 (by decide +kernel) rfl⟩
set_option maxRecDepth 20000 in
theorem m_X5_22 : mCs RX5 22 iX5_initialsOf 1 := ⟨⟨bw 517 (by decide +kernel) rfl, bw 91 (by decide +kernel) rfl, ⟨by decide +kernel, by decide +kernel⟩, by decide +kernel⟩, bw 515 (by decide +kernel) rfl, bw 516 (by decide +kernel) rfl⟩
set_option maxRecDepth 20000 in
theorem m_X5_26 : mCi RX5 26 iX5_init 3 := ⟨⟨bw 523 (by decide +kernel) rfl, bw 91 (by decide +kernel) rfl, ⟨by decide +kernel, by decide +kernel⟩, by decide +kernel⟩, bw 521 (by decide +kernel) rfl, bw 522 (by decide +kernel) rfl, rfl, rfl⟩
set_option maxRecDepth 20000 in
theorem m_X5_29 : mCs RX5 29 iX5_wordCount 1 := ⟨⟨bw 520 (by decide +kernel) rfl, bw 91 (by decide +kernel) rfl, ⟨by decide +kernel, by decide +kernel⟩, by decide +kernel⟩, bw 518 (by decide +kernel) rfl, bw 519 (by decide +kernel) rfl⟩
set_option maxRecDepth 20000 in
theorem m_X5_33 : mCv RX5 33 iX5_run 1 := ⟨⟨bw 606 (by decide +kernel) rfl, bw 91 (by decide +kernel) rfl, ⟨by decide +kernel, by decide +kernel⟩, by decide +kernel⟩, bw 603 (by decide +kernel) rfl, bw 604 (by decide +kernel) rfl, bw 605 (by decide +kernel) rfl⟩
set_option maxRecDepth 20000 in
theorem m_X5_37 : mCv RX5 37 iX5_startsPiece 2 := ⟨⟨bw 610 (by decide +kernel) rfl, bw 91 (by decide +kernel) rfl, ⟨by decide +kernel, by decide +kernel⟩, by decide +kernel⟩, bw 607 (by decide +kernel) rfl, bw 608 (by decide +kernel) rfl, bw 609 (by decide +kernel) rfl⟩
set_option maxRecDepth 20000 in
theorem m_X5_41 : mCs RX5 41 iX5_sameLength 5 := ⟨⟨bw 554 (by decide +kernel) rfl, bw 91 (by decide +kernel) rfl, ⟨by decide +kernel, by decide +kernel⟩, by decide +kernel⟩, bw 552 (by decide +kernel) rfl, bw 553 (by decide +kernel) rfl⟩
set_option maxRecDepth 20000 in
theorem m_X6_9 : mCn RX6 9 iX2_init 0 := ⟨⟨bw 104 (by decide +kernel) rfl, bw 73 (by decide +kernel) rfl, ⟨by decide +kernel, by decide +kernel⟩, by decide +kernel⟩, ⟨"TitleFinder", by decide +kernel⟩, bw 103 (by decide +kernel) rfl, rfl, rfl⟩
set_option maxRecDepth 20000 in
theorem m_X6_21 : mCi RX6 21 iX0_init 0 := ⟨⟨bw 162 (by decide +kernel) rfl, bw 77 (by decide +kernel) rfl, ⟨by decide +kernel, by decide +kernel⟩, by decide +kernel⟩, bw 160 (by decide +kernel) rfl, bw 161 (by decide +kernel) rfl, rfl, rfl⟩
set_option maxRecDepth 20000 in
theorem m_X6_28 : mCn RX6 28 iX4_init 0 := ⟨⟨bw 182 (by decide +kernel) rfl, bw 78 (by decide +kernel) rfl, ⟨by decide +kernel, by decide +kernel⟩, by decide +kernel⟩, ⟨"TitleFinder", by decide +kernel⟩, bw 181 (by decide +kernel) rfl, rfl, rfl⟩
set_option maxRecDepth 20000 in
theorem m_X6_35 : mCn RX6 35 iX1_init 0 := ⟨⟨bw 213 (by decide +kernel) rfl, bw 79 (by decide +kernel) rfl, ⟨by decide +kernel, by decide +kernel⟩, by decide +kernel⟩, ⟨"TitleFinder", by decide +kernel⟩, bw 212 (by decide +kernel) rfl, rfl, rfl⟩
set_option maxRecDepth 20000 in
theorem m_X6_42 : mCn RX6 42 iX3_init 0 := ⟨⟨bw 231 (by decide +kernel) rfl, bw 80 (by decide +kernel) rfl, ⟨by decide +kernel, by decide +kernel⟩, by decide +kernel⟩, ⟨"TitleFinder", by decide +kernel⟩, bw 230 (by decide +kernel) rfl, rfl, rfl⟩
set_option maxRecDepth 20000 in
theorem m_X6_47 : mCv RX6 47 iX4_append 1 := ⟨⟨bw 281 (by decide +kernel) rfl, bw 78 (by decide +kernel) rfl, ⟨by decide +kernel, by decide +kernel⟩, by decide +kernel⟩, bw 278 (by decide +kernel) rfl, bw 279 (by decide +kernel) rfl, bw 280 (by decide +kernel) rfl⟩
set_option maxRecDepth 20000 in
theorem m_X6_55 : mCv RX6 55 iX4_makeEmpty 0 := ⟨⟨bw 289 (by decide +kernel) rfl, bw 78 (by decide +kernel) rfl, ⟨by decide +kernel, by decide +kernel⟩, by decide +kernel⟩, bw 286 (by decide +kernel) rfl, bw 287 (by decide +kernel) rfl, bw 288 (by decide +kernel) rfl⟩
set_option maxRecDepth 20000 in
theorem m_X6_58 : mCv RX6 58 iX4_findFault 0 := ⟨⟨bw 297 (by decide +kernel) rfl, bw 78 (by decide +kernel) rfl, ⟨by decide +kernel, by decide +kernel⟩, by decide +kernel⟩, bw 294 (by decide +kernel) rfl, bw 295 (by decide +kernel) rfl, bw 296 (by decide +kernel) rfl⟩
set_option maxRecDepth 20000 in
theorem m_X6_62 : mCv RX6 62 iX0_save 1 := ⟨⟨bw 419 (by decide +kernel) rfl, bw 77 (by decide +kernel) rfl, ⟨by decide +kernel, by decide +kernel⟩, by decide +kernel⟩, bw 416 (by decide +kernel) rfl, bw 417 (by decide +kernel) rfl, bw 418 (by decide +kernel) rfl⟩
set_option maxRecDepth 20000 in
theorem m_X6_66 : mCv RX6 66 iX4_rewind 0 := ⟨⟨bw 301 (by decide +kernel) rfl, bw 78 (by decide +kernel) rfl, ⟨by decide +kernel, by decide +kernel⟩, by decide +kernel⟩, bw 500 (by decide +kernel) rfl, bw 299 (by decide +kernel) rfl, bw 300 (by decide +kernel) rfl⟩
set_option maxRecDepth 20000 in
theorem m_X6_69 : mCv RX6 69 iX4_passCommand 0 := ⟨⟨bw 305 (by decide +kernel) rfl, bw 78 (by decide +kernel) rfl, ⟨by decide +kernel, by decide +kernel⟩, by decide +kernel⟩, bw 501 (by decide +kernel) rfl, bw 303 (by decide +kernel) rfl, bw 304 (by decide +kernel) rfl⟩
set_option maxRecDepth 20000 in
theorem m_X6_73 : mCv RX6 73 iX6_obeyed 0 := ⟨⟨bw 505 (by decide +kernel) rfl, bw 72 (by decide +kernel) rfl, ⟨by decide +kernel, by decide +kernel⟩, by decide +kernel⟩, bw 502 (by decide +kernel) rfl, bw 504 (by decide +kernel) rfl, bw 9 (by decide +kernel) rfl⟩
set_option maxRecDepth 20000 in
theorem m_X6_76 : mCv RX6 76 iX4_passSemicolon 0 := ⟨⟨bw 410 (by decide +kernel) rfl, bw 78 (by decide +kernel) rfl, ⟨by decide +kernel, by decide +kernel⟩, by decide +kernel⟩, bw 642 (by decide +kernel) rfl, bw 408 (by decide +kernel) rfl, bw 409 (by decide +kernel) rfl⟩
set_option maxRecDepth 20000 in
theorem m_X6_82 : mCv RX6 82 iX4_passedTitle 0 := ⟨⟨bw 509 (by decide +kernel) rfl, bw 78 (by decide +kernel) rfl, ⟨by decide +kernel, by decide +kernel⟩, by decide +kernel⟩, bw 506 (by decide +kernel) rfl, bw 507 (by decide +kernel) rfl, bw 508 (by decide +kernel) rfl⟩
set_option maxRecDepth 20000 in
theorem m_X6_86 : mCv RX6 86 iX6_addIfPossible 1 := ⟨⟨bw 543 (by decide +kernel) rfl, bw 72 (by decide +kernel) rfl, ⟨by decide +kernel, by decide +kernel⟩, by decide +kernel⟩, bw 540 (by decide +kernel) rfl, bw 542 (by decide +kernel) rfl, bw 10 (by decide +kernel) rfl⟩
set_option maxRecDepth 20000 in
theorem m_X6_93 : mCv RX6 93 iX6_dropIfThere 1 := ⟨⟨bw 560 (by decide +kernel) rfl, bw 72 (by decide +kernel) rfl, ⟨by decide +kernel, by decide +kernel⟩, by decide +kernel⟩, bw 557 (by decide +kernel) rfl, bw 559 (by decide +kernel) rfl, bw 11 (by decide +kernel) rfl⟩
set_option maxRecDepth 20000 in
theorem m_X6_103 : mCv RX6 103 iX4_copyPassed 1 := ⟨⟨bw 577 (by decide +kernel) rfl, bw 78 (by decide +kernel) rfl, ⟨by decide +kernel, by decide +kernel⟩, by decide +kernel⟩, bw 574 (by decide +kernel) rfl, bw 575 (by decide +kernel) rfl, bw 576 (by decide +kernel) rfl⟩
set_option maxRecDepth 20000 in
theorem m_X6_106 : mCv RX6 106 iX6_pickIfThere 1 := ⟨⟨bw 585 (by decide +kernel) rfl, bw 72 (by decide +kernel) rfl, ⟨by decide +kernel, by decide +kernel⟩, by decide +kernel⟩, bw 582 (by decide +kernel) rfl, bw 584 (by decide +kernel) rfl, bw 13 (by decide +kernel) rfl⟩
set_option maxRecDepth 20000 in
theorem m_X6_113 : mCv RX6 113 iX4_isTitle 0 := ⟨⟨bw 650 (by decide +kernel) rfl, bw 78 (by decide +kernel) rfl, ⟨by decide +kernel, by decide +kernel⟩, by decide +kernel⟩, bw 647 (by decide +kernel) rfl, bw 648 (by decide +kernel) rfl, bw 649 (by decide +kernel) rfl⟩
set_option maxRecDepth 20000 in
theorem m_X6_116 : mCv RX6 116 iX2_refusal 1 := ⟨⟨bw 547 (by decide +kernel) rfl, bw 73 (by decide +kernel) rfl, ⟨by decide +kernel, by decide +kernel⟩, by decide +kernel⟩, bw 544 (by decide +kernel) rfl, bw 545 (by decide +kernel) rfl, bw 546 (by decide +kernel) rfl⟩
set_option maxRecDepth 20000 in
theorem m_X6_123 : mCv RX6 123 iJx4a65c_add_9ea2d 1 := ⟨⟨bw 448 (by decide +kernel) rfl, bw 76 (by decide +kernel) rfl, ⟨by decide +kernel, by decide +kernel⟩, by decide +kernel⟩, bw 555 (by decide +kernel) rfl, bw 446 (by decide +kernel) rfl, bw 447 (by decide +kernel) rfl⟩
set_option maxRecDepth 20000 in
theorem m_X6_129 : mCv RX6 129 iJx4a65c_size_8abf5 0 := ⟨⟨bw 431 (by decide +kernel) rfl, bw 76 (by decide +kernel) rfl, ⟨by decide +kernel, by decide +kernel⟩, by decide +kernel⟩, bw 556 (by decide +kernel) rfl, bw 429 (by decide +kernel) rfl, bw 430 (by decide +kernel) rfl⟩
set_option maxRecDepth 20000 in
theorem m_X6_132 : mCv RX6 132 iX2_has 1 := ⟨⟨bw 564 (by decide +kernel) rfl, bw 73 (by decide +kernel) rfl, ⟨by decide +kernel, by decide +kernel⟩, by decide +kernel⟩, bw 561 (by decide +kernel) rfl, bw 562 (by decide +kernel) rfl, bw 563 (by decide +kernel) rfl⟩
set_option maxRecDepth 20000 in
theorem m_X6_135 : mCv RX6 135 iJx4a65c_remove_915e3 1 := ⟨⟨bw 568 (by decide +kernel) rfl, bw 76 (by decide +kernel) rfl, ⟨by decide +kernel, by decide +kernel⟩, by decide +kernel⟩, bw 565 (by decide +kernel) rfl, bw 566 (by decide +kernel) rfl, bw 567 (by decide +kernel) rfl⟩
set_option maxRecDepth 20000 in
theorem m_X6_139 : mCv RX6 139 iJx4a65c_get_915e3 1 := ⟨⟨bw 435 (by decide +kernel) rfl, bw 76 (by decide +kernel) rfl, ⟨by decide +kernel, by decide +kernel⟩, by decide +kernel⟩, bw 632 (by decide +kernel) rfl, bw 433 (by decide +kernel) rfl, bw 434 (by decide +kernel) rfl⟩
set_option maxRecDepth 20000 in
theorem m_X6_148 : mCv RX6 148 iX3_look 2 := ⟨⟨bw 670 (by decide +kernel) rfl, bw 80 (by decide +kernel) rfl, ⟨by decide +kernel, by decide +kernel⟩, by decide +kernel⟩, bw 667 (by decide +kernel) rfl, bw 668 (by decide +kernel) rfl, bw 669 (by decide +kernel) rfl⟩
set_option maxRecDepth 20000 in
theorem m_X6_152 : mCv RX6 152 iX6_studiedNumber 2 := ⟨⟨bw 715 (by decide +kernel) rfl, bw 72 (by decide +kernel) rfl, ⟨by decide +kernel, by decide +kernel⟩, by decide +kernel⟩, bw 712 (by decide +kernel) rfl, bw 714 (by decide +kernel) rfl, bw 20 (by decide +kernel) rfl⟩
set_option maxRecDepth 20000 in
theorem m_X6_162 : mCv RX6 162 iX3_hasKey 0 := ⟨⟨bw 687 (by decide +kernel) rfl, bw 80 (by decide +kernel) rfl, ⟨by decide +kernel, by decide +kernel⟩, by decide +kernel⟩, bw 716 (by decide +kernel) rfl, bw 685 (by decide +kernel) rfl, bw 686 (by decide +kernel) rfl⟩
set_option maxRecDepth 20000 in
theorem m_X6_171 : mCv RX6 171 iX3_hasShortcut 0 := ⟨⟨bw 691 (by decide +kernel) rfl, bw 80 (by decide +kernel) rfl, ⟨by decide +kernel, by decide +kernel⟩, by decide +kernel⟩, bw 717 (by decide +kernel) rfl, bw 689 (by decide +kernel) rfl, bw 690 (by decide +kernel) rfl⟩
set_option maxRecDepth 20000 in
theorem m_X6_180 : mCv RX6 180 iX5_commonRun 1 := ⟨⟨bw 725 (by decide +kernel) rfl, bw 91 (by decide +kernel) rfl, ⟨by decide +kernel, by decide +kernel⟩, by decide +kernel⟩, bw 722 (by decide +kernel) rfl, bw 723 (by decide +kernel) rfl, bw 724 (by decide +kernel) rfl⟩
set_option maxRecDepth 20000 in
theorem m_X6_183 : mCv RX6 183 iX2_copyFrom 1 := ⟨⟨bw 423 (by decide +kernel) rfl, bw 73 (by decide +kernel) rfl, ⟨by decide +kernel, by decide +kernel⟩, by decide +kernel⟩, bw 743 (by decide +kernel) rfl, bw 421 (by decide +kernel) rfl, bw 422 (by decide +kernel) rfl⟩
set_option maxRecDepth 20000 in
theorem m_X6_186 : mCv RX6 186 iX6_keyWouldChange 1 := ⟨⟨bw 747 (by decide +kernel) rfl, bw 72 (by decide +kernel) rfl, ⟨by decide +kernel, by decide +kernel⟩, by decide +kernel⟩, bw 744 (by decide +kernel) rfl, bw 746 (by decide +kernel) rfl, bw 21 (by decide +kernel) rfl⟩
set_option maxRecDepth 20000 in
theorem m_X6_189 : mCs RX6 189 iX4_isLetter 1 := ⟨⟨bw 395 (by decide +kernel) rfl, bw 78 (by decide +kernel) rfl, ⟨by decide +kernel, by decide +kernel⟩, by decide +kernel⟩, bw 768 (by decide +kernel) rfl, bw 394 (by decide +kernel) rfl⟩
set_option maxRecDepth 20000 in
theorem m_X6_192 : mCv RX6 192 iX2_queryEndsWithLetter 0 := ⟨⟨bw 598 (by decide +kernel) rfl, bw 73 (by decide +kernel) rfl, ⟨by decide +kernel, by decide +kernel⟩, by decide +kernel⟩, bw 769 (by decide +kernel) rfl, bw 596 (by decide +kernel) rfl, bw 597 (by decide +kernel) rfl⟩
set_option maxRecDepth 20000 in
theorem m_X6_195 : mCv RX6 195 iX2_appendToQuery 1 := ⟨⟨bw 581 (by decide +kernel) rfl, bw 73 (by decide +kernel) rfl, ⟨by decide +kernel, by decide +kernel⟩, by decide +kernel⟩, bw 770 (by decide +kernel) rfl, bw 579 (by decide +kernel) rfl, bw 580 (by decide +kernel) rfl⟩
set_option maxRecDepth 20000 in
theorem m_X6_199 : mCv RX6 199 iX6_results 0 := ⟨⟨bw 774 (by decide +kernel) rfl, bw 72 (by decide +kernel) rfl, ⟨by decide +kernel, by decide +kernel⟩, by decide +kernel⟩, bw 771 (by decide +kernel) rfl, bw 772 (by decide +kernel) rfl, bw 773 (by decide +kernel) rfl⟩
set_option maxRecDepth 20000 in
theorem m_X6_205 : mCv RX6 205 iX1_rank 1 := ⟨⟨bw 589 (by decide +kernel) rfl, bw 79 (by decide +kernel) rfl, ⟨by decide +kernel, by decide +kernel⟩, by decide +kernel⟩, bw 586 (by decide +kernel) rfl, bw 587 (by decide +kernel) rfl, bw 588 (by decide +kernel) rfl⟩
set_option maxRecDepth 20000 in
theorem m_X6_211 : mCv RX6 211 iX1_has 1 := ⟨⟨bw 626 (by decide +kernel) rfl, bw 79 (by decide +kernel) rfl, ⟨by decide +kernel, by decide +kernel⟩, by decide +kernel⟩, bw 623 (by decide +kernel) rfl, bw 624 (by decide +kernel) rfl, bw 625 (by decide +kernel) rfl⟩
set_option maxRecDepth 20000 in
theorem m_X6_212 : mCv RX6 212 iX1_titleAt 1 := ⟨⟨bw 630 (by decide +kernel) rfl, bw 79 (by decide +kernel) rfl, ⟨by decide +kernel, by decide +kernel⟩, by decide +kernel⟩, bw 627 (by decide +kernel) rfl, bw 628 (by decide +kernel) rfl, bw 629 (by decide +kernel) rfl⟩
set_option maxRecDepth 20000 in
theorem m_X6_215 : mCv RX6 215 iX1_placeAt 1 := ⟨⟨bw 799 (by decide +kernel) rfl, bw 79 (by decide +kernel) rfl, ⟨by decide +kernel, by decide +kernel⟩, by decide +kernel⟩, bw 796 (by decide +kernel) rfl, bw 797 (by decide +kernel) rfl, bw 798 (by decide +kernel) rfl⟩
set_option maxRecDepth 20000 in
theorem m_X6_218 : mCv RX6 218 iX5_usedOnceMore 0 := ⟨⟨bw 637 (by decide +kernel) rfl, bw 91 (by decide +kernel) rfl, ⟨by decide +kernel, by decide +kernel⟩, by decide +kernel⟩, bw 634 (by decide +kernel) rfl, bw 635 (by decide +kernel) rfl, bw 636 (by decide +kernel) rfl⟩
set_option maxRecDepth 20000 in
theorem m_X6_221 : mCv RX6 221 iJx4a65c_set_bcc79 2 := ⟨⟨bw 641 (by decide +kernel) rfl, bw 76 (by decide +kernel) rfl, ⟨by decide +kernel, by decide +kernel⟩, by decide +kernel⟩, bw 638 (by decide +kernel) rfl, bw 639 (by decide +kernel) rfl, bw 640 (by decide +kernel) rfl⟩
set_option maxRecDepth 20000 in
theorem m_X6_226 : mCv RX6 226 iX0_restore 1 := ⟨⟨bw 811 (by decide +kernel) rfl, bw 77 (by decide +kernel) rfl, ⟨by decide +kernel, by decide +kernel⟩, by decide +kernel⟩, bw 808 (by decide +kernel) rfl, bw 809 (by decide +kernel) rfl, bw 810 (by decide +kernel) rfl⟩
set_option maxRecDepth 20000 in
theorem m_X6_231 : mCv RX6 231 iX6_titles 0 := ⟨⟨bw 658 (by decide +kernel) rfl, bw 72 (by decide +kernel) rfl, ⟨by decide +kernel, by decide +kernel⟩, by decide +kernel⟩, bw 817 (by decide +kernel) rfl, bw 656 (by decide +kernel) rfl, bw 657 (by decide +kernel) rfl⟩
set_option maxRecDepth 20000 in
theorem m_X6_233 : mCs RX6 233 iX6_hashWith 2 := ⟨⟨bw 820 (by decide +kernel) rfl, bw 72 (by decide +kernel) rfl, ⟨by decide +kernel, by decide +kernel⟩, by decide +kernel⟩, bw 818 (by decide +kernel) rfl, bw 819 (by decide +kernel) rfl⟩
set_option maxRecDepth 20000 in
theorem m_X6_237 : mCv RX6 237 iX6_hashWithTitle 3 := ⟨⟨bw 825 (by decide +kernel) rfl, bw 72 (by decide +kernel) rfl, ⟨by decide +kernel, by decide +kernel⟩, by decide +kernel⟩, bw 822 (by decide +kernel) rfl, bw 824 (by decide +kernel) rfl, bw 22 (by decide +kernel) rfl⟩
set_option maxRecDepth 20000 in
theorem m_X6_241 : mCv RX6 241 iX6_unknown 0 := ⟨⟨bw 734 (by decide +kernel) rfl, bw 72 (by decide +kernel) rfl, ⟨by decide +kernel, by decide +kernel⟩, by decide +kernel⟩, bw 826 (by decide +kernel) rfl, bw 732 (by decide +kernel) rfl, bw 733 (by decide +kernel) rfl⟩
set_option maxRecDepth 20000 in
theorem m_X6_244 : mCv RX6 244 iX6_hardest 0 := ⟨⟨bw 738 (by decide +kernel) rfl, bw 72 (by decide +kernel) rfl, ⟨by decide +kernel, by decide +kernel⟩, by decide +kernel⟩, bw 827 (by decide +kernel) rfl, bw 736 (by decide +kernel) rfl, bw 737 (by decide +kernel) rfl⟩
set_option maxRecDepth 20000 in
theorem m_X6_247 : mCv RX6 247 iX6_mode 0 := ⟨⟨bw 759 (by decide +kernel) rfl, bw 72 (by decide +kernel) rfl, ⟨by decide +kernel, by decide +kernel⟩, by decide +kernel⟩, bw 828 (by decide +kernel) rfl, bw 757 (by decide +kernel) rfl, bw 758 (by decide +kernel) rfl⟩
set_option maxRecDepth 20000 in
theorem m_X6_249 : mCv RX6 249 iX6_order 0 := ⟨⟨bw 763 (by decide +kernel) rfl, bw 72 (by decide +kernel) rfl, ⟨by decide +kernel, by decide +kernel⟩, by decide +kernel⟩, bw 829 (by decide +kernel) rfl, bw 761 (by decide +kernel) rfl, bw 762 (by decide +kernel) rfl⟩
set_option maxRecDepth 20000 in
theorem m_X6_251 : mCv RX6 251 iX6_queryLength 0 := ⟨⟨bw 782 (by decide +kernel) rfl, bw 72 (by decide +kernel) rfl, ⟨by decide +kernel, by decide +kernel⟩, by decide +kernel⟩, bw 830 (by decide +kernel) rfl, bw 780 (by decide +kernel) rfl, bw 781 (by decide +kernel) rfl⟩
set_option maxRecDepth 20000 in
theorem m_X6_253 : mCv RX6 253 iX6_queryCharacter 1 := ⟨⟨bw 786 (by decide +kernel) rfl, bw 72 (by decide +kernel) rfl, ⟨by decide +kernel, by decide +kernel⟩, by decide +kernel⟩, bw 831 (by decide +kernel) rfl, bw 784 (by decide +kernel) rfl, bw 785 (by decide +kernel) rfl⟩
set_option maxRecDepth 20000 in
theorem m_X6_256 : mCv RX6 256 iX6_hashWithResults 1 := ⟨⟨bw 835 (by decide +kernel) rfl, bw 72 (by decide +kernel) rfl, ⟨by decide +kernel, by decide +kernel⟩, by decide +kernel⟩, bw 832 (by decide +kernel) rfl, bw 834 (by decide +kernel) rfl, bw 23 (by decide +kernel) rfl⟩
set_option maxRecDepth 20000 in
theorem m_X7_47 : mCs RX7 47 iX7_within 3 := ⟨⟨bw 915 (by decide +kernel) rfl, bw 81 (by decide +kernel) rfl, ⟨by decide +kernel, by decide +kernel⟩, by decide +kernel⟩, bw 913 (by decide +kernel) rfl, bw 914 (by decide +kernel) rfl⟩
set_option maxRecDepth 20000 in
theorem m_X7_51 : mCv RX7 51 iX7_part 2 := ⟨⟨bw 1009 (by decide +kernel) rfl, bw 81 (by decide +kernel) rfl, ⟨by decide +kernel, by decide +kernel⟩, by decide +kernel⟩, bw 1006 (by decide +kernel) rfl, bw 1008 (by decide +kernel) rfl, bw 39 (by decide +kernel) rfl⟩
set_option maxRecDepth 20000 in
theorem m_X7_55 : mCv RX7 55 iX7_characterOf 2 := ⟨⟨bw 1013 (by decide +kernel) rfl, bw 81 (by decide +kernel) rfl, ⟨by decide +kernel, by decide +kernel⟩, by decide +kernel⟩, bw 1010 (by decide +kernel) rfl, bw 1012 (by decide +kernel) rfl, bw 40 (by decide +kernel) rfl⟩
set_option maxRecDepth 20000 in
theorem m_X7_58 : mCv RX7 58 iX7_lengthOf 1 := ⟨⟨bw 1005 (by decide +kernel) rfl, bw 81 (by decide +kernel) rfl, ⟨by decide +kernel, by decide +kernel⟩, by decide +kernel⟩, bw 1002 (by decide +kernel) rfl, bw 1004 (by decide +kernel) rfl, bw 38 (by decide +kernel) rfl⟩
set_option maxRecDepth 20000 in
theorem m_X7_62 : mCv RX7 62 iX7_beginsWord 2 := ⟨⟨bw 1033 (by decide +kernel) rfl, bw 81 (by decide +kernel) rfl, ⟨by decide +kernel, by decide +kernel⟩, by decide +kernel⟩, bw 1030 (by decide +kernel) rfl, bw 1032 (by decide +kernel) rfl, bw 45 (by decide +kernel) rfl⟩
set_option maxRecDepth 20000 in
theorem m_X7_66 : mCv RX7 66 iX7_sourceAt 2 := ⟨⟨bw 1053 (by decide +kernel) rfl, bw 81 (by decide +kernel) rfl, ⟨by decide +kernel, by decide +kernel⟩, by decide +kernel⟩, bw 1050 (by decide +kernel) rfl, bw 1052 (by decide +kernel) rfl, bw 50 (by decide +kernel) rfl⟩
set_option maxRecDepth 20000 in
theorem m_X7_69 : mCv RX7 69 iX7_canStart 2 := ⟨⟨bw 1049 (by decide +kernel) rfl, bw 81 (by decide +kernel) rfl, ⟨by decide +kernel, by decide +kernel⟩, by decide +kernel⟩, bw 1046 (by decide +kernel) rfl, bw 1048 (by decide +kernel) rfl, bw 49 (by decide +kernel) rfl⟩
set_option maxRecDepth 20000 in
theorem m_X7_75 : mCv RX7 75 iX7_isPiece 3 := ⟨⟨bw 1045 (by decide +kernel) rfl, bw 81 (by decide +kernel) rfl, ⟨by decide +kernel, by decide +kernel⟩, by decide +kernel⟩, bw 1042 (by decide +kernel) rfl, bw 1044 (by decide +kernel) rfl, bw 48 (by decide +kernel) rfl⟩
set_option maxRecDepth 20000 in
theorem m_X7_78 : mCv RX7 78 iX7_isAheadByName 2 := ⟨⟨bw 1061 (by decide +kernel) rfl, bw 81 (by decide +kernel) rfl, ⟨by decide +kernel, by decide +kernel⟩, by decide +kernel⟩, bw 1058 (by decide +kernel) rfl, bw 1060 (by decide +kernel) rfl, bw 52 (by decide +kernel) rfl⟩
set_option maxRecDepth 20000 in
theorem m_X7_81 : mCv RX7 81 iX7_isAheadByPlace 2 := ⟨⟨bw 1065 (by decide +kernel) rfl, bw 81 (by decide +kernel) rfl, ⟨by decide +kernel, by decide +kernel⟩, by decide +kernel⟩, bw 1062 (by decide +kernel) rfl, bw 1064 (by decide +kernel) rfl, bw 53 (by decide +kernel) rfl⟩
set_option maxRecDepth 20000 in
theorem m_X7_84 : mCv RX7 84 iX7_placeIn 1 := ⟨⟨bw 1041 (by decide +kernel) rfl, bw 81 (by decide +kernel) rfl, ⟨by decide +kernel, by decide +kernel⟩, by decide +kernel⟩, bw 1038 (by decide +kernel) rfl, bw 1040 (by decide +kernel) rfl, bw 47 (by decide +kernel) rfl⟩
set_option maxRecDepth 20000 in
theorem m_X7_87 : mCv RX7 87 iX7_findSources 0 := ⟨⟨bw 1029 (by decide +kernel) rfl, bw 81 (by decide +kernel) rfl, ⟨by decide +kernel, by decide +kernel⟩, by decide +kernel⟩, bw 1026 (by decide +kernel) rfl, bw 1028 (by decide +kernel) rfl, bw 44 (by decide +kernel) rfl⟩
set_option maxRecDepth 20000 in
theorem m_X7_90 : mCv RX7 90 iX7_findPlaces 0 := ⟨⟨bw 1037 (by decide +kernel) rfl, bw 81 (by decide +kernel) rfl, ⟨by decide +kernel, by decide +kernel⟩, by decide +kernel⟩, bw 1034 (by decide +kernel) rfl, bw 1036 (by decide +kernel) rfl, bw 46 (by decide +kernel) rfl⟩
set_option maxRecDepth 20000 in
theorem m_X7_96 : mCv RX7 96 iX7_isAhead 2 := ⟨⟨bw 1057 (by decide +kernel) rfl, bw 81 (by decide +kernel) rfl, ⟨by decide +kernel, by decide +kernel⟩, by decide +kernel⟩, bw 1054 (by decide +kernel) rfl, bw 1056 (by decide +kernel) rfl, bw 51 (by decide +kernel) rfl⟩
set_option maxRecDepth 20000 in
theorem m_X7_99 : mCv RX7 99 iX7_asks 3 := ⟨⟨bw 1125 (by decide +kernel) rfl, bw 81 (by decide +kernel) rfl, ⟨by decide +kernel, by decide +kernel⟩, by decide +kernel⟩, bw 1122 (by decide +kernel) rfl, bw 1124 (by decide +kernel) rfl, bw 63 (by decide +kernel) rfl⟩
set_option maxRecDepth 20000 in
theorem m_X7_103 : mCv RX7 103 iX7_isAlone 1 := ⟨⟨bw 1129 (by decide +kernel) rfl, bw 81 (by decide +kernel) rfl, ⟨by decide +kernel, by decide +kernel⟩, by decide +kernel⟩, bw 1126 (by decide +kernel) rfl, bw 1128 (by decide +kernel) rfl, bw 64 (by decide +kernel) rfl⟩
set_option maxRecDepth 20000 in
theorem m_X7_107 : mCv RX7 107 iX7_isFirst 1 := ⟨⟨bw 1133 (by decide +kernel) rfl, bw 81 (by decide +kernel) rfl, ⟨by decide +kernel, by decide +kernel⟩, by decide +kernel⟩, bw 1130 (by decide +kernel) rfl, bw 1132 (by decide +kernel) rfl, bw 65 (by decide +kernel) rfl⟩
set_option maxRecDepth 20000 in
theorem m_X7_116 : mCv RX7 116 iX7_findPiece 2 := ⟨⟨bw 1121 (by decide +kernel) rfl, bw 81 (by decide +kernel) rfl, ⟨by decide +kernel, by decide +kernel⟩, by decide +kernel⟩, bw 1118 (by decide +kernel) rfl, bw 1120 (by decide +kernel) rfl, bw 62 (by decide +kernel) rfl⟩
set_option maxRecDepth 20000 in
theorem m_X7_126 : mCv RX7 126 iX7_typedAt 1 := ⟨⟨bw 935 (by decide +kernel) rfl, bw 81 (by decide +kernel) rfl, ⟨by decide +kernel, by decide +kernel⟩, by decide +kernel⟩, bw 932 (by decide +kernel) rfl, bw 934 (by decide +kernel) rfl, bw 26 (by decide +kernel) rfl⟩
set_option maxRecDepth 20000 in
theorem m_X7_131 : mCv RX7 131 iX7_isNext 1 := ⟨⟨bw 950 (by decide +kernel) rfl, bw 81 (by decide +kernel) rfl, ⟨by decide +kernel, by decide +kernel⟩, by decide +kernel⟩, bw 947 (by decide +kernel) rfl, bw 949 (by decide +kernel) rfl, bw 29 (by decide +kernel) rfl⟩
set_option maxRecDepth 20000 in
theorem m_X7_137 : mCs RX7 137 iX7_isLetter 1 := ⟨⟨bw 957 (by decide +kernel) rfl, bw 81 (by decide +kernel) rfl, ⟨by decide +kernel, by decide +kernel⟩, by decide +kernel⟩, bw 955 (by decide +kernel) rfl, bw 956 (by decide +kernel) rfl⟩
set_option maxRecDepth 20000 in
theorem m_X7_154 : mCv RX7 154 iX7_readsWord 1 := ⟨⟨bw 945 (by decide +kernel) rfl, bw 81 (by decide +kernel) rfl, ⟨by decide +kernel, by decide +kernel⟩, by decide +kernel⟩, bw 942 (by decide +kernel) rfl, bw 944 (by decide +kernel) rfl, bw 28 (by decide +kernel) rfl⟩
set_option maxRecDepth 20000 in
theorem m_X7_171 : mCv RX7 171 iX7_readsTitle 0 := ⟨⟨bw 954 (by decide +kernel) rfl, bw 81 (by decide +kernel) rfl, ⟨by decide +kernel, by decide +kernel⟩, by decide +kernel⟩, bw 951 (by decide +kernel) rfl, bw 953 (by decide +kernel) rfl, bw 30 (by decide +kernel) rfl⟩
set_option maxRecDepth 20000 in
theorem m_X7_175 : mCv RX7 175 iX7_readsAddOrAsk 0 := ⟨⟨bw 939 (by decide +kernel) rfl, bw 81 (by decide +kernel) rfl, ⟨by decide +kernel, by decide +kernel⟩, by decide +kernel⟩, bw 936 (by decide +kernel) rfl, bw 938 (by decide +kernel) rfl, bw 27 (by decide +kernel) rfl⟩
set_option maxRecDepth 20000 in
theorem m_X7_180 : mCv RX7 180 iX7_readsNumber 0 := ⟨⟨bw 962 (by decide +kernel) rfl, bw 81 (by decide +kernel) rfl, ⟨by decide +kernel, by decide +kernel⟩, by decide +kernel⟩, bw 959 (by decide +kernel) rfl, bw 961 (by decide +kernel) rfl, bw 31 (by decide +kernel) rfl⟩
set_option maxRecDepth 20000 in
theorem m_X7_185 : mCv RX7 185 iX7_readsMode 0 := ⟨⟨bw 967 (by decide +kernel) rfl, bw 81 (by decide +kernel) rfl, ⟨by decide +kernel, by decide +kernel⟩, by decide +kernel⟩, bw 964 (by decide +kernel) rfl, bw 966 (by decide +kernel) rfl, bw 32 (by decide +kernel) rfl⟩
set_option maxRecDepth 20000 in
theorem m_X7_190 : mCv RX7 190 iX7_readsOrder 0 := ⟨⟨bw 976 (by decide +kernel) rfl, bw 81 (by decide +kernel) rfl, ⟨by decide +kernel, by decide +kernel⟩, by decide +kernel⟩, bw 973 (by decide +kernel) rfl, bw 975 (by decide +kernel) rfl, bw 33 (by decide +kernel) rfl⟩
set_option maxRecDepth 20000 in
theorem m_X7_197 : mCv RX7 197 iX7_readsCommand 0 := ⟨⟨bw 931 (by decide +kernel) rfl, bw 81 (by decide +kernel) rfl, ⟨by decide +kernel, by decide +kernel⟩, by decide +kernel⟩, bw 928 (by decide +kernel) rfl, bw 930 (by decide +kernel) rfl, bw 25 (by decide +kernel) rfl⟩
set_option maxRecDepth 20000 in
theorem m_X7_200 : mCv RX7 200 iX7_findError 0 := ⟨⟨bw 927 (by decide +kernel) rfl, bw 81 (by decide +kernel) rfl, ⟨by decide +kernel, by decide +kernel⟩, by decide +kernel⟩, bw 924 (by decide +kernel) rfl, bw 926 (by decide +kernel) rfl, bw 24 (by decide +kernel) rfl⟩
set_option maxRecDepth 20000 in
theorem m_X7_204 : mCv RX7 204 iX7_isThere 2 := ⟨⟨bw 1001 (by decide +kernel) rfl, bw 81 (by decide +kernel) rfl, ⟨by decide +kernel, by decide +kernel⟩, by decide +kernel⟩, bw 998 (by decide +kernel) rfl, bw 1000 (by decide +kernel) rfl, bw 37 (by decide +kernel) rfl⟩
set_option maxRecDepth 20000 in
theorem m_X7_207 : mCv RX7 207 iX7_clearsQuery 0 := ⟨⟨bw 1085 (by decide +kernel) rfl, bw 81 (by decide +kernel) rfl, ⟨by decide +kernel, by decide +kernel⟩, by decide +kernel⟩, bw 1082 (by decide +kernel) rfl, bw 1084 (by decide +kernel) rfl, bw 58 (by decide +kernel) rfl⟩
set_option maxRecDepth 20000 in
theorem m_X7_210 : mCv RX7 210 iX7_findResults 0 := ⟨⟨bw 1025 (by decide +kernel) rfl, bw 81 (by decide +kernel) rfl, ⟨by decide +kernel, by decide +kernel⟩, by decide +kernel⟩, bw 1022 (by decide +kernel) rfl, bw 1024 (by decide +kernel) rfl, bw 43 (by decide +kernel) rfl⟩
set_option maxRecDepth 20000 in
theorem m_X7_213 : mCv RX7 213 iX7_whyNotAdded 2 := ⟨⟨bw 997 (by decide +kernel) rfl, bw 81 (by decide +kernel) rfl, ⟨by decide +kernel, by decide +kernel⟩, by decide +kernel⟩, bw 994 (by decide +kernel) rfl, bw 996 (by decide +kernel) rfl, bw 36 (by decide +kernel) rfl⟩
set_option maxRecDepth 20000 in
theorem m_X7_216 : mCv RX7 216 iX7_isTitle 1 := ⟨⟨bw 1017 (by decide +kernel) rfl, bw 81 (by decide +kernel) rfl, ⟨by decide +kernel, by decide +kernel⟩, by decide +kernel⟩, bw 1014 (by decide +kernel) rfl, bw 1016 (by decide +kernel) rfl, bw 41 (by decide +kernel) rfl⟩
set_option maxRecDepth 20000 in
theorem m_X7_219 : mCv RX7 219 iX7_isRank 1 := ⟨⟨bw 1021 (by decide +kernel) rfl, bw 81 (by decide +kernel) rfl, ⟨by decide +kernel, by decide +kernel⟩, by decide +kernel⟩, bw 1018 (by decide +kernel) rfl, bw 1020 (by decide +kernel) rfl, bw 42 (by decide +kernel) rfl⟩
set_option maxRecDepth 20000 in
theorem m_X7_222 : mCv RX7 222 iX7_adds 2 := ⟨⟨bw 1073 (by decide +kernel) rfl, bw 81 (by decide +kernel) rfl, ⟨by decide +kernel, by decide +kernel⟩, by decide +kernel⟩, bw 1070 (by decide +kernel) rfl, bw 1072 (by decide +kernel) rfl, bw 55 (by decide +kernel) rfl⟩
set_option maxRecDepth 20000 in
theorem m_X7_225 : mCv RX7 225 iX7_drops 1 := ⟨⟨bw 1077 (by decide +kernel) rfl, bw 81 (by decide +kernel) rfl, ⟨by decide +kernel, by decide +kernel⟩, by decide +kernel⟩, bw 1074 (by decide +kernel) rfl, bw 1076 (by decide +kernel) rfl, bw 56 (by decide +kernel) rfl⟩
set_option maxRecDepth 20000 in
theorem m_X7_228 : mCv RX7 228 iX7_picks 1 := ⟨⟨bw 1081 (by decide +kernel) rfl, bw 81 (by decide +kernel) rfl, ⟨by decide +kernel, by decide +kernel⟩, by decide +kernel⟩, bw 1078 (by decide +kernel) rfl, bw 1080 (by decide +kernel) rfl, bw 57 (by decide +kernel) rfl⟩
set_option maxRecDepth 20000 in
theorem m_X7_231 : mCv RX7 231 iX7_record 0 := ⟨⟨bw 989 (by decide +kernel) rfl, bw 81 (by decide +kernel) rfl, ⟨by decide +kernel, by decide +kernel⟩, by decide +kernel⟩, bw 986 (by decide +kernel) rfl, bw 988 (by decide +kernel) rfl, bw 34 (by decide +kernel) rfl⟩
set_option maxRecDepth 20000 in
theorem m_X7_234 : mCv RX7 234 iX7_mayDo 0 := ⟨⟨bw 993 (by decide +kernel) rfl, bw 81 (by decide +kernel) rfl, ⟨by decide +kernel, by decide +kernel⟩, by decide +kernel⟩, bw 990 (by decide +kernel) rfl, bw 992 (by decide +kernel) rfl, bw 35 (by decide +kernel) rfl⟩
set_option maxRecDepth 20000 in
theorem m_X7_237 : mCv RX7 237 iX7_does 0 := ⟨⟨bw 1069 (by decide +kernel) rfl, bw 81 (by decide +kernel) rfl, ⟨by decide +kernel, by decide +kernel⟩, by decide +kernel⟩, bw 1066 (by decide +kernel) rfl, bw 1068 (by decide +kernel) rfl, bw 54 (by decide +kernel) rfl⟩
set_option maxRecDepth 20000 in
theorem m_X7_240 : mCv RX7 240 iX7_whyNotTyped 0 := ⟨⟨bw 1093 (by decide +kernel) rfl, bw 81 (by decide +kernel) rfl, ⟨by decide +kernel, by decide +kernel⟩, by decide +kernel⟩, bw 1090 (by decide +kernel) rfl, bw 1092 (by decide +kernel) rfl, bw 59 (by decide +kernel) rfl⟩
set_option maxRecDepth 20000 in
theorem m_X7_243 : mCv RX7 243 iX7_words 1 := ⟨⟨bw 1117 (by decide +kernel) rfl, bw 81 (by decide +kernel) rfl, ⟨by decide +kernel, by decide +kernel⟩, by decide +kernel⟩, bw 1114 (by decide +kernel) rfl, bw 1116 (by decide +kernel) rfl, bw 61 (by decide +kernel) rfl⟩
set_option maxRecDepth 20000 in
theorem m_X7_246 : mCv RX7 246 iX7_ofTitle 2 := ⟨⟨bw 1113 (by decide +kernel) rfl, bw 81 (by decide +kernel) rfl, ⟨by decide +kernel, by decide +kernel⟩, by decide +kernel⟩, bw 1110 (by decide +kernel) rfl, bw 1112 (by decide +kernel) rfl, bw 60 (by decide +kernel) rfl⟩
set_option maxRecDepth 20000 in
theorem m_X7_249 : mCv RX7 249 iX7_longestRun 2 := ⟨⟨bw 1141 (by decide +kernel) rfl, bw 81 (by decide +kernel) rfl, ⟨by decide +kernel, by decide +kernel⟩, by decide +kernel⟩, bw 1138 (by decide +kernel) rfl, bw 1140 (by decide +kernel) rfl, bw 66 (by decide +kernel) rfl⟩
set_option maxRecDepth 20000 in
theorem m_X7_252 : mCv RX7 252 iX7_findKeys 0 := ⟨⟨bw 1153 (by decide +kernel) rfl, bw 81 (by decide +kernel) rfl, ⟨by decide +kernel, by decide +kernel⟩, by decide +kernel⟩, bw 1150 (by decide +kernel) rfl, bw 1152 (by decide +kernel) rfl, bw 67 (by decide +kernel) rfl⟩
set_option maxRecDepth 20000 in
theorem m_X7_255 : mCv RX7 255 iX7_unknownNow 0 := ⟨⟨bw 1157 (by decide +kernel) rfl, bw 81 (by decide +kernel) rfl, ⟨by decide +kernel, by decide +kernel⟩, by decide +kernel⟩, bw 1154 (by decide +kernel) rfl, bw 1156 (by decide +kernel) rfl, bw 68 (by decide +kernel) rfl⟩
set_option maxRecDepth 20000 in
theorem m_X7_258 : mCv RX7 258 iX7_hardestNow 0 := ⟨⟨bw 1165 (by decide +kernel) rfl, bw 81 (by decide +kernel) rfl, ⟨by decide +kernel, by decide +kernel⟩, by decide +kernel⟩, bw 1162 (by decide +kernel) rfl, bw 1164 (by decide +kernel) rfl, bw 69 (by decide +kernel) rfl⟩
set_option maxRecDepth 20000 in
theorem m_X7_261 : mCv RX7 261 iX7_resultsMany 0 := ⟨⟨bw 1193 (by decide +kernel) rfl, bw 81 (by decide +kernel) rfl, ⟨by decide +kernel, by decide +kernel⟩, by decide +kernel⟩, bw 1190 (by decide +kernel) rfl, bw 1192 (by decide +kernel) rfl, bw 70 (by decide +kernel) rfl⟩
set_option maxRecDepth 20000 in
theorem m_J0_335 : mCv RJ0 335 iJ0_coder_7d493 0 := ⟨⟨bw 341 (by decide +kernel) rfl, bw 82 (by decide +kernel) rfl, ⟨by decide +kernel, by decide +kernel⟩, by decide +kernel⟩, bw 338 (by decide +kernel) rfl, bw 339 (by decide +kernel) rfl, bw 340 (by decide +kernel) rfl⟩
set_option maxRecDepth 20000 in
theorem m_J0_492 : mCv RJ0 492 iJ0_isLatin1_aae02 0 := ⟨⟨bw 351 (by decide +kernel) rfl, bw 82 (by decide +kernel) rfl, ⟨by decide +kernel, by decide +kernel⟩, by decide +kernel⟩, bw 348 (by decide +kernel) rfl, bw 349 (by decide +kernel) rfl, bw 350 (by decide +kernel) rfl⟩
set_option maxRecDepth 20000 in
theorem m_J0_495 : mCs RJ0 495 iJ1_charAt_3b067 2 := ⟨⟨bw 354 (by decide +kernel) rfl, bw 83 (by decide +kernel) rfl, ⟨by decide +kernel, by decide +kernel⟩, by decide +kernel⟩, bw 352 (by decide +kernel) rfl, bw 353 (by decide +kernel) rfl⟩
set_option maxRecDepth 20000 in
theorem m_J0_498 : mCs RJ0 498 iJ2_charAt_3b067 2 := ⟨⟨bw 365 (by decide +kernel) rfl, bw 85 (by decide +kernel) rfl, ⟨by decide +kernel, by decide +kernel⟩, by decide +kernel⟩, bw 363 (by decide +kernel) rfl, bw 364 (by decide +kernel) rfl⟩
set_option maxRecDepth 20000 in
theorem m_J0_1059 : mCs RJ0 1059 iJ3_checkIndex_8e157 3 := ⟨⟨bw 362 (by decide +kernel) rfl, bw 84 (by decide +kernel) rfl, ⟨by decide +kernel, by decide +kernel⟩, by decide +kernel⟩, bw 360 (by decide +kernel) rfl, bw 361 (by decide +kernel) rfl⟩
set_option maxRecDepth 20000 in
theorem m_J1_9 : mCs RJ1 9 iJ0_checkIndex_df160 2 := ⟨⟨bw 357 (by decide +kernel) rfl, bw 82 (by decide +kernel) rfl, ⟨by decide +kernel, by decide +kernel⟩, by decide +kernel⟩, bw 355 (by decide +kernel) rfl, bw 356 (by decide +kernel) rfl⟩
set_option maxRecDepth 20000 in
theorem m_J2_48 : mCs RJ2 48 iJ2_length_9d52b 1 := ⟨⟨bw 371 (by decide +kernel) rfl, bw 85 (by decide +kernel) rfl, ⟨by decide +kernel, by decide +kernel⟩, by decide +kernel⟩, bw 369 (by decide +kernel) rfl, bw 370 (by decide +kernel) rfl⟩
set_option maxRecDepth 20000 in
theorem m_J2_67 : mCs RJ2 67 iJ2_checkIndex_2214a 2 := ⟨⟨bw 368 (by decide +kernel) rfl, bw 85 (by decide +kernel) rfl, ⟨by decide +kernel, by decide +kernel⟩, by decide +kernel⟩, bw 366 (by decide +kernel) rfl, bw 367 (by decide +kernel) rfl⟩
set_option maxRecDepth 20000 in
theorem m_J2_71 : mCs RJ2 71 iJ2_getChar_3b067 2 := ⟨⟨bw 375 (by decide +kernel) rfl, bw 85 (by decide +kernel) rfl, ⟨by decide +kernel, by decide +kernel⟩, by decide +kernel⟩, bw 373 (by decide +kernel) rfl, bw 374 (by decide +kernel) rfl⟩
set_option maxRecDepth 20000 in
theorem m_J2_414 : mCs RJ2 414 iJ0_checkIndex_df160 2 := ⟨⟨bw 357 (by decide +kernel) rfl, bw 82 (by decide +kernel) rfl, ⟨by decide +kernel, by decide +kernel⟩, by decide +kernel⟩, bw 372 (by decide +kernel) rfl, bw 356 (by decide +kernel) rfl⟩
set_option maxRecDepth 20000 in
theorem m_Jxc12de_1 : mCi RJxc12de 1 iJxa1e45_init_da8c8 0 := ⟨⟨bw 116 (by decide +kernel) rfl, bw 74 (by decide +kernel) rfl, ⟨by decide +kernel, by decide +kernel⟩, by decide +kernel⟩, bw 114 (by decide +kernel) rfl, bw 115 (by decide +kernel) rfl, rfl, rfl⟩
set_option maxRecDepth 20000 in
theorem m_Jx4a65c_1 : mCi RJx4a65c 1 iJxc12de_init_da8c8 0 := ⟨⟨bw 113 (by decide +kernel) rfl, bw 75 (by decide +kernel) rfl, ⟨by decide +kernel, by decide +kernel⟩, by decide +kernel⟩, bw 111 (by decide +kernel) rfl, bw 112 (by decide +kernel) rfl, rfl, rfl⟩
set_option maxRecDepth 20000 in
theorem m_Jx4a65c_73 : mCs RJx4a65c 73 iJ8_newLength_cabcc 3 := ⟨⟨bw 463 (by decide +kernel) rfl, bw 88 (by decide +kernel) rfl, ⟨by decide +kernel, by decide +kernel⟩, by decide +kernel⟩, bw 461 (by decide +kernel) rfl, bw 462 (by decide +kernel) rfl⟩
set_option maxRecDepth 20000 in
theorem m_Jx4a65c_66 : mCs RJx4a65c 66 iJ7_copyOf_1904c 2 := ⟨⟨bw 471 (by decide +kernel) rfl, bw 89 (by decide +kernel) rfl, ⟨by decide +kernel, by decide +kernel⟩, by decide +kernel⟩, bw 469 (by decide +kernel) rfl, bw 470 (by decide +kernel) rfl⟩
set_option maxRecDepth 20000 in
theorem m_Jx4a65c_69 : mCv RJx4a65c 69 iJx4a65c_grow_92f84 1 := ⟨⟨bw 460 (by decide +kernel) rfl, bw 76 (by decide +kernel) rfl, ⟨by decide +kernel, by decide +kernel⟩, by decide +kernel⟩, bw 457 (by decide +kernel) rfl, bw 459 (by decide +kernel) rfl, bw 8 (by decide +kernel) rfl⟩
set_option maxRecDepth 20000 in
theorem m_Jx4a65c_118 : mCs RJx4a65c 118 iJ15_checkIndex_7cf53 2 := ⟨⟨bw 438 (by decide +kernel) rfl, bw 87 (by decide +kernel) rfl, ⟨by decide +kernel, by decide +kernel⟩, by decide +kernel⟩, bw 436 (by decide +kernel) rfl, bw 437 (by decide +kernel) rfl⟩
set_option maxRecDepth 20000 in
theorem m_Jx4a65c_123 : mCv RJx4a65c 123 iJx4a65c_elementData_915e3 1 := ⟨⟨bw 443 (by decide +kernel) rfl, bw 76 (by decide +kernel) rfl, ⟨by decide +kernel, by decide +kernel⟩, by decide +kernel⟩, bw 440 (by decide +kernel) rfl, bw 441 (by decide +kernel) rfl, bw 442 (by decide +kernel) rfl⟩
set_option maxRecDepth 20000 in
theorem m_Jx4a65c_129 : mCv RJx4a65c 129 iJx4a65c_grow_d5877 0 := ⟨⟨bw 456 (by decide +kernel) rfl, bw 76 (by decide +kernel) rfl, ⟨by decide +kernel, by decide +kernel⟩, by decide +kernel⟩, bw 453 (by decide +kernel) rfl, bw 455 (by decide +kernel) rfl, bw 7 (by decide +kernel) rfl⟩
set_option maxRecDepth 20000 in
theorem m_Jx4a65c_131 : mCv RJx4a65c 131 iJx4a65c_add_72be8 3 := ⟨⟨bw 452 (by decide +kernel) rfl, bw 76 (by decide +kernel) rfl, ⟨by decide +kernel, by decide +kernel⟩, by decide +kernel⟩, bw 449 (by decide +kernel) rfl, bw 451 (by decide +kernel) rfl, bw 6 (by decide +kernel) rfl⟩
set_option maxRecDepth 20000 in
theorem m_Jx4a65c_144 : mCv RJx4a65c 144 iJx4a65c_fastRemove_b59b0 2 := ⟨⟨bw 572 (by decide +kernel) rfl, bw 76 (by decide +kernel) rfl, ⟨by decide +kernel, by decide +kernel⟩, by decide +kernel⟩, bw 569 (by decide +kernel) rfl, bw 571 (by decide +kernel) rfl, bw 12 (by decide +kernel) rfl⟩
set_option maxRecDepth 20000 in
theorem m_J7_300 : mCs RJ7 300 iJ7_copyOf_6403c 3 := ⟨⟨bw 487 (by decide +kernel) rfl, bw 89 (by decide +kernel) rfl, ⟨by decide +kernel, by decide +kernel⟩, by decide +kernel⟩, bw 485 (by decide +kernel) rfl, bw 486 (by decide +kernel) rfl⟩
set_option maxRecDepth 20000 in
theorem m_J15_105 : mCs RJ15 105 iJ3_checkIndex_8e157 3 := ⟨⟨bw 362 (by decide +kernel) rfl, bw 84 (by decide +kernel) rfl, ⟨by decide +kernel, by decide +kernel⟩, by decide +kernel⟩, bw 439 (by decide +kernel) rfl, bw 361 (by decide +kernel) rfl⟩
set_option maxRecDepth 20000 in
theorem m_J8_201 : mCs RJ8 201 iJ8_hugeLength_7cf53 2 := ⟨⟨bw 468 (by decide +kernel) rfl, bw 88 (by decide +kernel) rfl, ⟨by decide +kernel, by decide +kernel⟩, by decide +kernel⟩, bw 466 (by decide +kernel) rfl, bw 467 (by decide +kernel) rfl⟩
set_option maxRecDepth 20000 in
theorem m_L_9 : mCi RL 9 iX6_init 0 := ⟨⟨bw 96 (by decide +kernel) rfl, bw 72 (by decide +kernel) rfl, ⟨by decide +kernel, by decide +kernel⟩, by decide +kernel⟩, bw 94 (by decide +kernel) rfl, bw 95 (by decide +kernel) rfl, rfl, rfl⟩
set_option maxRecDepth 20000 in
theorem m_L_12 : mCi RL 12 iX7_init 0 := ⟨⟨bw 840 (by decide +kernel) rfl, bw 81 (by decide +kernel) rfl, ⟨by decide +kernel, by decide +kernel⟩, by decide +kernel⟩, bw 838 (by decide +kernel) rfl, bw 839 (by decide +kernel) rfl, rfl, rfl⟩
set_option maxRecDepth 20000 in
theorem m_L_13 : mCv RL 13 iX6_type 1 := ⟨⟨bw 277 (by decide +kernel) rfl, bw 72 (by decide +kernel) rfl, ⟨by decide +kernel, by decide +kernel⟩, by decide +kernel⟩, bw 274 (by decide +kernel) rfl, bw 275 (by decide +kernel) rfl, bw 276 (by decide +kernel) rfl⟩
set_option maxRecDepth 20000 in
theorem m_L_17 : mCv RL 17 iX7_type 1 := ⟨⟨bw 912 (by decide +kernel) rfl, bw 81 (by decide +kernel) rfl, ⟨by decide +kernel, by decide +kernel⟩, by decide +kernel⟩, bw 909 (by decide +kernel) rfl, bw 910 (by decide +kernel) rfl, bw 911 (by decide +kernel) rfl⟩
set_option maxRecDepth 20000 in
theorem m_L_18 : mCv RL 18 iX6_clearText 0 := ⟨⟨bw 285 (by decide +kernel) rfl, bw 72 (by decide +kernel) rfl, ⟨by decide +kernel, by decide +kernel⟩, by decide +kernel⟩, bw 282 (by decide +kernel) rfl, bw 283 (by decide +kernel) rfl, bw 284 (by decide +kernel) rfl⟩
set_option maxRecDepth 20000 in
theorem m_L_22 : mCv RL 22 iX7_clearText 0 := ⟨⟨bw 919 (by decide +kernel) rfl, bw 81 (by decide +kernel) rfl, ⟨by decide +kernel, by decide +kernel⟩, by decide +kernel⟩, bw 916 (by decide +kernel) rfl, bw 917 (by decide +kernel) rfl, bw 918 (by decide +kernel) rfl⟩
set_option maxRecDepth 20000 in
theorem m_L_23 : mCv RL 23 iX6_syntaxError 0 := ⟨⟨bw 293 (by decide +kernel) rfl, bw 72 (by decide +kernel) rfl, ⟨by decide +kernel, by decide +kernel⟩, by decide +kernel⟩, bw 290 (by decide +kernel) rfl, bw 291 (by decide +kernel) rfl, bw 292 (by decide +kernel) rfl⟩
set_option maxRecDepth 20000 in
theorem m_L_26 : mCv RL 26 iX7_syntaxError 0 := ⟨⟨bw 923 (by decide +kernel) rfl, bw 81 (by decide +kernel) rfl, ⟨by decide +kernel, by decide +kernel⟩, by decide +kernel⟩, bw 920 (by decide +kernel) rfl, bw 921 (by decide +kernel) rfl, bw 922 (by decide +kernel) rfl⟩
set_option maxRecDepth 20000 in
theorem m_L_27 : mCv RL 27 iX6_carryOut 0 := ⟨⟨bw 415 (by decide +kernel) rfl, bw 72 (by decide +kernel) rfl, ⟨by decide +kernel, by decide +kernel⟩, by decide +kernel⟩, bw 412 (by decide +kernel) rfl, bw 413 (by decide +kernel) rfl, bw 414 (by decide +kernel) rfl⟩
set_option maxRecDepth 20000 in
theorem m_L_30 : mCv RL 30 iX7_carryOut 0 := ⟨⟨bw 985 (by decide +kernel) rfl, bw 81 (by decide +kernel) rfl, ⟨by decide +kernel, by decide +kernel⟩, by decide +kernel⟩, bw 982 (by decide +kernel) rfl, bw 983 (by decide +kernel) rfl, bw 984 (by decide +kernel) rfl⟩
set_option maxRecDepth 20000 in
theorem m_L_31 : mCv RL 31 iX6_add 0 := ⟨⟨bw 646 (by decide +kernel) rfl, bw 72 (by decide +kernel) rfl, ⟨by decide +kernel, by decide +kernel⟩, by decide +kernel⟩, bw 643 (by decide +kernel) rfl, bw 644 (by decide +kernel) rfl, bw 645 (by decide +kernel) rfl⟩
set_option maxRecDepth 20000 in
theorem m_L_34 : mCv RL 34 iX7_add 0 := ⟨⟨bw 1089 (by decide +kernel) rfl, bw 81 (by decide +kernel) rfl, ⟨by decide +kernel, by decide +kernel⟩, by decide +kernel⟩, bw 1086 (by decide +kernel) rfl, bw 1087 (by decide +kernel) rfl, bw 1088 (by decide +kernel) rfl⟩
set_option maxRecDepth 20000 in
theorem m_L_35 : mCv RL 35 iX6_drop 1 := ⟨⟨bw 654 (by decide +kernel) rfl, bw 72 (by decide +kernel) rfl, ⟨by decide +kernel, by decide +kernel⟩, by decide +kernel⟩, bw 651 (by decide +kernel) rfl, bw 652 (by decide +kernel) rfl, bw 653 (by decide +kernel) rfl⟩
set_option maxRecDepth 20000 in
theorem m_L_38 : mCv RL 38 iX7_drop 1 := ⟨⟨bw 1097 (by decide +kernel) rfl, bw 81 (by decide +kernel) rfl, ⟨by decide +kernel, by decide +kernel⟩, by decide +kernel⟩, bw 1094 (by decide +kernel) rfl, bw 1095 (by decide +kernel) rfl, bw 1096 (by decide +kernel) rfl⟩
set_option maxRecDepth 20000 in
theorem m_L_39 : mCv RL 39 iX6_titles 0 := ⟨⟨bw 658 (by decide +kernel) rfl, bw 72 (by decide +kernel) rfl, ⟨by decide +kernel, by decide +kernel⟩, by decide +kernel⟩, bw 655 (by decide +kernel) rfl, bw 656 (by decide +kernel) rfl, bw 657 (by decide +kernel) rfl⟩
set_option maxRecDepth 20000 in
theorem m_L_42 : mCv RL 42 iX7_titles 0 := ⟨⟨bw 1101 (by decide +kernel) rfl, bw 81 (by decide +kernel) rfl, ⟨by decide +kernel, by decide +kernel⟩, by decide +kernel⟩, bw 1098 (by decide +kernel) rfl, bw 1099 (by decide +kernel) rfl, bw 1100 (by decide +kernel) rfl⟩
set_option maxRecDepth 20000 in
theorem m_L_43 : mCv RL 43 iX6_character 2 := ⟨⟨bw 662 (by decide +kernel) rfl, bw 72 (by decide +kernel) rfl, ⟨by decide +kernel, by decide +kernel⟩, by decide +kernel⟩, bw 659 (by decide +kernel) rfl, bw 660 (by decide +kernel) rfl, bw 661 (by decide +kernel) rfl⟩
set_option maxRecDepth 20000 in
theorem m_L_47 : mCv RL 47 iX7_character 2 := ⟨⟨bw 1105 (by decide +kernel) rfl, bw 81 (by decide +kernel) rfl, ⟨by decide +kernel, by decide +kernel⟩, by decide +kernel⟩, bw 1102 (by decide +kernel) rfl, bw 1103 (by decide +kernel) rfl, bw 1104 (by decide +kernel) rfl⟩
set_option maxRecDepth 20000 in
theorem m_L_48 : mCv RL 48 iX6_of 2 := ⟨⟨bw 666 (by decide +kernel) rfl, bw 72 (by decide +kernel) rfl, ⟨by decide +kernel, by decide +kernel⟩, by decide +kernel⟩, bw 663 (by decide +kernel) rfl, bw 664 (by decide +kernel) rfl, bw 665 (by decide +kernel) rfl⟩
set_option maxRecDepth 20000 in
theorem m_L_51 : mCv RL 51 iX7_of 2 := ⟨⟨bw 1109 (by decide +kernel) rfl, bw 81 (by decide +kernel) rfl, ⟨by decide +kernel, by decide +kernel⟩, by decide +kernel⟩, bw 1106 (by decide +kernel) rfl, bw 1107 (by decide +kernel) rfl, bw 1108 (by decide +kernel) rfl⟩
set_option maxRecDepth 20000 in
theorem m_L_52 : mCv RL 52 iX6_common 2 := ⟨⟨bw 721 (by decide +kernel) rfl, bw 72 (by decide +kernel) rfl, ⟨by decide +kernel, by decide +kernel⟩, by decide +kernel⟩, bw 718 (by decide +kernel) rfl, bw 719 (by decide +kernel) rfl, bw 720 (by decide +kernel) rfl⟩
set_option maxRecDepth 20000 in
theorem m_L_55 : mCv RL 55 iX7_common 2 := ⟨⟨bw 1137 (by decide +kernel) rfl, bw 81 (by decide +kernel) rfl, ⟨by decide +kernel, by decide +kernel⟩, by decide +kernel⟩, bw 1134 (by decide +kernel) rfl, bw 1135 (by decide +kernel) rfl, bw 1136 (by decide +kernel) rfl⟩
set_option maxRecDepth 20000 in
theorem m_L_56 : mCv RL 56 iX6_closest 1 := ⟨⟨bw 730 (by decide +kernel) rfl, bw 72 (by decide +kernel) rfl, ⟨by decide +kernel, by decide +kernel⟩, by decide +kernel⟩, bw 727 (by decide +kernel) rfl, bw 728 (by decide +kernel) rfl, bw 729 (by decide +kernel) rfl⟩
set_option maxRecDepth 20000 in
theorem m_L_59 : mCv RL 59 iX7_closest 1 := ⟨⟨bw 1145 (by decide +kernel) rfl, bw 81 (by decide +kernel) rfl, ⟨by decide +kernel, by decide +kernel⟩, by decide +kernel⟩, bw 1142 (by decide +kernel) rfl, bw 1143 (by decide +kernel) rfl, bw 1144 (by decide +kernel) rfl⟩
set_option maxRecDepth 20000 in
theorem m_L_60 : mCv RL 60 iX6_unknown 0 := ⟨⟨bw 734 (by decide +kernel) rfl, bw 72 (by decide +kernel) rfl, ⟨by decide +kernel, by decide +kernel⟩, by decide +kernel⟩, bw 731 (by decide +kernel) rfl, bw 732 (by decide +kernel) rfl, bw 733 (by decide +kernel) rfl⟩
set_option maxRecDepth 20000 in
theorem m_L_63 : mCv RL 63 iX7_unknown 0 := ⟨⟨bw 1149 (by decide +kernel) rfl, bw 81 (by decide +kernel) rfl, ⟨by decide +kernel, by decide +kernel⟩, by decide +kernel⟩, bw 1146 (by decide +kernel) rfl, bw 1147 (by decide +kernel) rfl, bw 1148 (by decide +kernel) rfl⟩
set_option maxRecDepth 20000 in
theorem m_L_64 : mCv RL 64 iX6_hardest 0 := ⟨⟨bw 738 (by decide +kernel) rfl, bw 72 (by decide +kernel) rfl, ⟨by decide +kernel, by decide +kernel⟩, by decide +kernel⟩, bw 735 (by decide +kernel) rfl, bw 736 (by decide +kernel) rfl, bw 737 (by decide +kernel) rfl⟩
set_option maxRecDepth 20000 in
theorem m_L_67 : mCv RL 67 iX7_hardest 0 := ⟨⟨bw 1161 (by decide +kernel) rfl, bw 81 (by decide +kernel) rfl, ⟨by decide +kernel, by decide +kernel⟩, by decide +kernel⟩, bw 1158 (by decide +kernel) rfl, bw 1159 (by decide +kernel) rfl, bw 1160 (by decide +kernel) rfl⟩
set_option maxRecDepth 20000 in
theorem m_L_68 : mCv RL 68 iX6_ifAdded 0 := ⟨⟨bw 742 (by decide +kernel) rfl, bw 72 (by decide +kernel) rfl, ⟨by decide +kernel, by decide +kernel⟩, by decide +kernel⟩, bw 739 (by decide +kernel) rfl, bw 740 (by decide +kernel) rfl, bw 741 (by decide +kernel) rfl⟩
set_option maxRecDepth 20000 in
theorem m_L_71 : mCv RL 71 iX7_ifAdded 0 := ⟨⟨bw 1169 (by decide +kernel) rfl, bw 81 (by decide +kernel) rfl, ⟨by decide +kernel, by decide +kernel⟩, by decide +kernel⟩, bw 1166 (by decide +kernel) rfl, bw 1167 (by decide +kernel) rfl, bw 1168 (by decide +kernel) rfl⟩
set_option maxRecDepth 20000 in
theorem m_L_72 : mCv RL 72 iX6_setMode 1 := ⟨⟨bw 751 (by decide +kernel) rfl, bw 72 (by decide +kernel) rfl, ⟨by decide +kernel, by decide +kernel⟩, by decide +kernel⟩, bw 748 (by decide +kernel) rfl, bw 749 (by decide +kernel) rfl, bw 750 (by decide +kernel) rfl⟩
set_option maxRecDepth 20000 in
theorem m_L_75 : mCv RL 75 iX7_setMode 1 := ⟨⟨bw 1173 (by decide +kernel) rfl, bw 81 (by decide +kernel) rfl, ⟨by decide +kernel, by decide +kernel⟩, by decide +kernel⟩, bw 1170 (by decide +kernel) rfl, bw 1171 (by decide +kernel) rfl, bw 1172 (by decide +kernel) rfl⟩
set_option maxRecDepth 20000 in
theorem m_L_76 : mCv RL 76 iX6_setOrder 1 := ⟨⟨bw 755 (by decide +kernel) rfl, bw 72 (by decide +kernel) rfl, ⟨by decide +kernel, by decide +kernel⟩, by decide +kernel⟩, bw 752 (by decide +kernel) rfl, bw 753 (by decide +kernel) rfl, bw 754 (by decide +kernel) rfl⟩
set_option maxRecDepth 20000 in
theorem m_L_79 : mCv RL 79 iX7_setOrder 1 := ⟨⟨bw 1177 (by decide +kernel) rfl, bw 81 (by decide +kernel) rfl, ⟨by decide +kernel, by decide +kernel⟩, by decide +kernel⟩, bw 1174 (by decide +kernel) rfl, bw 1175 (by decide +kernel) rfl, bw 1176 (by decide +kernel) rfl⟩
set_option maxRecDepth 20000 in
theorem m_L_80 : mCv RL 80 iX6_mode 0 := ⟨⟨bw 759 (by decide +kernel) rfl, bw 72 (by decide +kernel) rfl, ⟨by decide +kernel, by decide +kernel⟩, by decide +kernel⟩, bw 756 (by decide +kernel) rfl, bw 757 (by decide +kernel) rfl, bw 758 (by decide +kernel) rfl⟩
set_option maxRecDepth 20000 in
theorem m_L_83 : mCv RL 83 iX7_mode 0 := ⟨⟨bw 1181 (by decide +kernel) rfl, bw 81 (by decide +kernel) rfl, ⟨by decide +kernel, by decide +kernel⟩, by decide +kernel⟩, bw 1178 (by decide +kernel) rfl, bw 1179 (by decide +kernel) rfl, bw 1180 (by decide +kernel) rfl⟩
set_option maxRecDepth 20000 in
theorem m_L_84 : mCv RL 84 iX6_order 0 := ⟨⟨bw 763 (by decide +kernel) rfl, bw 72 (by decide +kernel) rfl, ⟨by decide +kernel, by decide +kernel⟩, by decide +kernel⟩, bw 760 (by decide +kernel) rfl, bw 761 (by decide +kernel) rfl, bw 762 (by decide +kernel) rfl⟩
set_option maxRecDepth 20000 in
theorem m_L_87 : mCv RL 87 iX7_order 0 := ⟨⟨bw 1185 (by decide +kernel) rfl, bw 81 (by decide +kernel) rfl, ⟨by decide +kernel, by decide +kernel⟩, by decide +kernel⟩, bw 1182 (by decide +kernel) rfl, bw 1183 (by decide +kernel) rfl, bw 1184 (by decide +kernel) rfl⟩
set_option maxRecDepth 20000 in
theorem m_L_88 : mCv RL 88 iX6_ask 1 := ⟨⟨bw 767 (by decide +kernel) rfl, bw 72 (by decide +kernel) rfl, ⟨by decide +kernel, by decide +kernel⟩, by decide +kernel⟩, bw 764 (by decide +kernel) rfl, bw 765 (by decide +kernel) rfl, bw 766 (by decide +kernel) rfl⟩
set_option maxRecDepth 20000 in
theorem m_L_91 : mCv RL 91 iX7_ask 1 := ⟨⟨bw 1189 (by decide +kernel) rfl, bw 81 (by decide +kernel) rfl, ⟨by decide +kernel, by decide +kernel⟩, by decide +kernel⟩, bw 1186 (by decide +kernel) rfl, bw 1187 (by decide +kernel) rfl, bw 1188 (by decide +kernel) rfl⟩
set_option maxRecDepth 20000 in
theorem m_L_92 : mCv RL 92 iX6_erase 0 := ⟨⟨bw 778 (by decide +kernel) rfl, bw 72 (by decide +kernel) rfl, ⟨by decide +kernel, by decide +kernel⟩, by decide +kernel⟩, bw 775 (by decide +kernel) rfl, bw 776 (by decide +kernel) rfl, bw 777 (by decide +kernel) rfl⟩
set_option maxRecDepth 20000 in
theorem m_L_95 : mCv RL 95 iX7_erase 0 := ⟨⟨bw 1197 (by decide +kernel) rfl, bw 81 (by decide +kernel) rfl, ⟨by decide +kernel, by decide +kernel⟩, by decide +kernel⟩, bw 1194 (by decide +kernel) rfl, bw 1195 (by decide +kernel) rfl, bw 1196 (by decide +kernel) rfl⟩
set_option maxRecDepth 20000 in
theorem m_L_96 : mCv RL 96 iX6_queryLength 0 := ⟨⟨bw 782 (by decide +kernel) rfl, bw 72 (by decide +kernel) rfl, ⟨by decide +kernel, by decide +kernel⟩, by decide +kernel⟩, bw 779 (by decide +kernel) rfl, bw 780 (by decide +kernel) rfl, bw 781 (by decide +kernel) rfl⟩
set_option maxRecDepth 20000 in
theorem m_L_99 : mCv RL 99 iX7_queryLength 0 := ⟨⟨bw 1201 (by decide +kernel) rfl, bw 81 (by decide +kernel) rfl, ⟨by decide +kernel, by decide +kernel⟩, by decide +kernel⟩, bw 1198 (by decide +kernel) rfl, bw 1199 (by decide +kernel) rfl, bw 1200 (by decide +kernel) rfl⟩
set_option maxRecDepth 20000 in
theorem m_L_100 : mCv RL 100 iX6_queryCharacter 1 := ⟨⟨bw 786 (by decide +kernel) rfl, bw 72 (by decide +kernel) rfl, ⟨by decide +kernel, by decide +kernel⟩, by decide +kernel⟩, bw 783 (by decide +kernel) rfl, bw 784 (by decide +kernel) rfl, bw 785 (by decide +kernel) rfl⟩
set_option maxRecDepth 20000 in
theorem m_L_103 : mCv RL 103 iX7_queryCharacter 1 := ⟨⟨bw 1205 (by decide +kernel) rfl, bw 81 (by decide +kernel) rfl, ⟨by decide +kernel, by decide +kernel⟩, by decide +kernel⟩, bw 1202 (by decide +kernel) rfl, bw 1203 (by decide +kernel) rfl, bw 1204 (by decide +kernel) rfl⟩
set_option maxRecDepth 20000 in
theorem m_L_104 : mCv RL 104 iX6_results 0 := ⟨⟨bw 774 (by decide +kernel) rfl, bw 72 (by decide +kernel) rfl, ⟨by decide +kernel, by decide +kernel⟩, by decide +kernel⟩, bw 787 (by decide +kernel) rfl, bw 772 (by decide +kernel) rfl, bw 773 (by decide +kernel) rfl⟩
set_option maxRecDepth 20000 in
theorem m_L_107 : mCv RL 107 iX7_results 0 := ⟨⟨bw 1209 (by decide +kernel) rfl, bw 81 (by decide +kernel) rfl, ⟨by decide +kernel, by decide +kernel⟩, by decide +kernel⟩, bw 1206 (by decide +kernel) rfl, bw 1207 (by decide +kernel) rfl, bw 1208 (by decide +kernel) rfl⟩
set_option maxRecDepth 20000 in
theorem m_L_108 : mCv RL 108 iX6_result 1 := ⟨⟨bw 791 (by decide +kernel) rfl, bw 72 (by decide +kernel) rfl, ⟨by decide +kernel, by decide +kernel⟩, by decide +kernel⟩, bw 788 (by decide +kernel) rfl, bw 789 (by decide +kernel) rfl, bw 790 (by decide +kernel) rfl⟩
set_option maxRecDepth 20000 in
theorem m_L_111 : mCv RL 111 iX7_result 1 := ⟨⟨bw 1213 (by decide +kernel) rfl, bw 81 (by decide +kernel) rfl, ⟨by decide +kernel, by decide +kernel⟩, by decide +kernel⟩, bw 1210 (by decide +kernel) rfl, bw 1211 (by decide +kernel) rfl, bw 1212 (by decide +kernel) rfl⟩
set_option maxRecDepth 20000 in
theorem m_L_112 : mCv RL 112 iX6_matchPlace 1 := ⟨⟨bw 795 (by decide +kernel) rfl, bw 72 (by decide +kernel) rfl, ⟨by decide +kernel, by decide +kernel⟩, by decide +kernel⟩, bw 792 (by decide +kernel) rfl, bw 793 (by decide +kernel) rfl, bw 794 (by decide +kernel) rfl⟩
set_option maxRecDepth 20000 in
theorem m_L_115 : mCv RL 115 iX7_matchPlace 1 := ⟨⟨bw 1217 (by decide +kernel) rfl, bw 81 (by decide +kernel) rfl, ⟨by decide +kernel, by decide +kernel⟩, by decide +kernel⟩, bw 1214 (by decide +kernel) rfl, bw 1215 (by decide +kernel) rfl, bw 1216 (by decide +kernel) rfl⟩
set_option maxRecDepth 20000 in
theorem m_L_116 : mCv RL 116 iX6_pick 1 := ⟨⟨bw 803 (by decide +kernel) rfl, bw 72 (by decide +kernel) rfl, ⟨by decide +kernel, by decide +kernel⟩, by decide +kernel⟩, bw 800 (by decide +kernel) rfl, bw 801 (by decide +kernel) rfl, bw 802 (by decide +kernel) rfl⟩
set_option maxRecDepth 20000 in
theorem m_L_119 : mCv RL 119 iX7_pick 1 := ⟨⟨bw 1221 (by decide +kernel) rfl, bw 81 (by decide +kernel) rfl, ⟨by decide +kernel, by decide +kernel⟩, by decide +kernel⟩, bw 1218 (by decide +kernel) rfl, bw 1219 (by decide +kernel) rfl, bw 1220 (by decide +kernel) rfl⟩
set_option maxRecDepth 20000 in
theorem m_L_120 : mCv RL 120 iX6_undo 0 := ⟨⟨bw 807 (by decide +kernel) rfl, bw 72 (by decide +kernel) rfl, ⟨by decide +kernel, by decide +kernel⟩, by decide +kernel⟩, bw 804 (by decide +kernel) rfl, bw 805 (by decide +kernel) rfl, bw 806 (by decide +kernel) rfl⟩
set_option maxRecDepth 20000 in
theorem m_L_123 : mCv RL 123 iX7_undo 0 := ⟨⟨bw 1225 (by decide +kernel) rfl, bw 81 (by decide +kernel) rfl, ⟨by decide +kernel, by decide +kernel⟩, by decide +kernel⟩, bw 1222 (by decide +kernel) rfl, bw 1223 (by decide +kernel) rfl, bw 1224 (by decide +kernel) rfl⟩
set_option maxRecDepth 20000 in
theorem m_L_124 : mCv RL 124 iX6_digest 0 := ⟨⟨bw 815 (by decide +kernel) rfl, bw 72 (by decide +kernel) rfl, ⟨by decide +kernel, by decide +kernel⟩, by decide +kernel⟩, bw 812 (by decide +kernel) rfl, bw 813 (by decide +kernel) rfl, bw 814 (by decide +kernel) rfl⟩
set_option maxRecDepth 20000 in
theorem m_L_128 : mCv RL 128 iX7_digest 0 := ⟨⟨bw 1229 (by decide +kernel) rfl, bw 81 (by decide +kernel) rfl, ⟨by decide +kernel, by decide +kernel⟩, by decide +kernel⟩, bw 1226 (by decide +kernel) rfl, bw 1227 (by decide +kernel) rfl, bw 1228 (by decide +kernel) rfl⟩
set_option maxRecDepth 20000 in
theorem mm_X0_29 : mMath RX0 29 Lib.Math.min.name Lib.Math.min.code := ⟨bw 499 (by decide +kernel) rfl, bw 492 (by decide +kernel) rfl, bw 86 (by decide +kernel) rfl, bw 493 (by decide +kernel) rfl⟩
set_option maxRecDepth 20000 in
theorem mm_X3_66 : mMath RX3 66 Lib.Math.min.name Lib.Math.min.code := ⟨bw 693 (by decide +kernel) rfl, bw 492 (by decide +kernel) rfl, bw 86 (by decide +kernel) rfl, bw 493 (by decide +kernel) rfl⟩
set_option maxRecDepth 20000 in
theorem mm_X3_93 : mMath RX3 93 Lib.Math.max.name Lib.Math.max.code := ⟨bw 692 (by decide +kernel) rfl, bw 383 (by decide +kernel) rfl, bw 86 (by decide +kernel) rfl, bw 384 (by decide +kernel) rfl⟩
set_option maxRecDepth 20000 in
theorem mm_X4_81 : mMath RX4 81 Lib.Math.max.name Lib.Math.max.code := ⟨bw 382 (by decide +kernel) rfl, bw 383 (by decide +kernel) rfl, bw 86 (by decide +kernel) rfl, bw 384 (by decide +kernel) rfl⟩
set_option maxRecDepth 20000 in
theorem mm_X5_45 : mMath RX5 45 Lib.Math.max.name Lib.Math.max.code := ⟨bw 726 (by decide +kernel) rfl, bw 383 (by decide +kernel) rfl, bw 86 (by decide +kernel) rfl, bw 384 (by decide +kernel) rfl⟩
set_option maxRecDepth 20000 in
theorem mm_Jx4a65c_79 : mMath RJx4a65c 79 Lib.Math.max.name Lib.Math.max.code := ⟨bw 497 (by decide +kernel) rfl, bw 383 (by decide +kernel) rfl, bw 86 (by decide +kernel) rfl, bw 384 (by decide +kernel) rfl⟩
set_option maxRecDepth 20000 in
theorem mm_J7_304 : mMath RJ7 304 Lib.Math.min.name Lib.Math.min.code := ⟨bw 491 (by decide +kernel) rfl, bw 492 (by decide +kernel) rfl, bw 86 (by decide +kernel) rfl, bw 493 (by decide +kernel) rfl⟩
set_option maxRecDepth 20000 in
theorem mm_J8_194 : mMath RJ8 194 Lib.Math.max.name Lib.Math.max.code := ⟨bw 464 (by decide +kernel) rfl, bw 383 (by decide +kernel) rfl, bw 86 (by decide +kernel) rfl, bw 384 (by decide +kernel) rfl⟩
set_option maxRecDepth 20000 in
theorem l_X6_229 : Cond.constantLong RX6 229 (163) ∈ BIG := bw 816 (by decide +kernel) rfl
set_option maxRecDepth 20000 in
theorem l_X6_260 : Cond.constantLong RX6 260 (31) ∈ BIG := bw 821 (by decide +kernel) rfl
set_option maxRecDepth 20000 in
theorem l_X7_129 : Cond.constantLong RX7 129 (255) ∈ BIG := bw 946 (by decide +kernel) rfl
set_option maxRecDepth 20000 in
theorem l_X7_146 : Cond.constantLong RX7 146 (1953653104) ∈ BIG := bw 968 (by decide +kernel) rfl
set_option maxRecDepth 20000 in
theorem l_X7_148 : Cond.constantLong RX7 148 (500135195763) ∈ BIG := bw 969 (by decide +kernel) rfl
set_option maxRecDepth 20000 in
theorem l_X7_150 : Cond.constantLong RX7 150 (1685221239) ∈ BIG := bw 970 (by decide +kernel) rfl
set_option maxRecDepth 20000 in
theorem l_X7_152 : Cond.constantLong RX7 152 (8317129717398990441) ∈ BIG := bw 971 (by decide +kernel) rfl
set_option maxRecDepth 20000 in
theorem l_X7_158 : Cond.constantLong RX7 158 (435459026032) ∈ BIG := bw 977 (by decide +kernel) rfl
set_option maxRecDepth 20000 in
theorem l_X7_160 : Cond.constantLong RX7 160 (474148529775) ∈ BIG := bw 978 (by decide +kernel) rfl
set_option maxRecDepth 20000 in
theorem l_X7_162 : Cond.constantLong RX7 162 (1701667182) ∈ BIG := bw 979 (by decide +kernel) rfl
set_option maxRecDepth 20000 in
theorem l_X7_167 : Cond.constantLong RX7 167 (2124659) ∈ BIG := bw 940 (by decide +kernel) rfl
set_option maxRecDepth 20000 in
theorem l_X7_169 : Cond.constantLong RX7 169 (2122852) ∈ BIG := bw 941 (by decide +kernel) rfl
set_option maxRecDepth 20000 in
theorem l_X7_178 : Cond.constantLong RX7 178 (139325305444) ∈ BIG := bw 958 (by decide +kernel) rfl
set_option maxRecDepth 20000 in
theorem l_X7_183 : Cond.constantLong RX7 183 (139140034413) ∈ BIG := bw 963 (by decide +kernel) rfl
set_option maxRecDepth 20000 in
theorem l_X7_188 : Cond.constantLong RX7 188 (35675699442287) ∈ BIG := bw 972 (by decide +kernel) rfl
set_option maxRecDepth 20000 in
theorem l_X7_193 : Cond.constantLong RX7 193 (139240630640) ∈ BIG := bw 980 (by decide +kernel) rfl
set_option maxRecDepth 20000 in
theorem l_X7_195 : Cond.constantLong RX7 195 (491260308579) ∈ BIG := bw 981 (by decide +kernel) rfl
set_option maxRecDepth 20000 in
theorem l_X7_264 : Cond.constantLong RX7 264 (163) ∈ BIG := bw 1230 (by decide +kernel) rfl
set_option maxRecDepth 20000 in
theorem l_X7_266 : Cond.constantLong RX7 266 (31) ∈ BIG := bw 1231 (by decide +kernel) rfl
set_option maxRecDepth 20000 in
theorem k_X0_9 : Cond.classLink RX0 9 "TitleFinder$State" ∈ BIG := bw 164 (by decide +kernel) rfl
set_option maxRecDepth 20000 in
theorem k_X2_33 : Cond.classLink RX2 33 "TitleFinder$Title" ∈ BIG := bw 444 (by decide +kernel) rfl
set_option maxRecDepth 20000 in
theorem k_X3_9 : Cond.classLink RX3 9 "[[I" ∈ BIG := bw 233 (by decide +kernel) rfl
set_option maxRecDepth 20000 in
theorem k_X3_45 : Cond.classLink RX3 45 "TitleFinder$Title" ∈ BIG := bw 673 (by decide +kernel) rfl
set_option maxRecDepth 20000 in
theorem k_X6_142 : Cond.classLink RX6 142 "TitleFinder$Title" ∈ BIG := bw 633 (by decide +kernel) rfl
set_option maxRecDepth 20000 in
theorem k_Jx4a65c_7 : Cond.classLink RJx4a65c 7 "java/lang/Object" ∈ BIG := bw 498 (by decide +kernel) rfl
set_option maxRecDepth 20000 in
theorem k_J7_2 : Cond.classLink RJ7 2 "java/lang/Object" ∈ BIG := bw 490 (by decide +kernel) rfl
set_option maxRecDepth 20000 in
theorem k_J7_110 : Cond.classLink RJ7 110 "[Ljava/lang/Object;" ∈ BIG := bw 488 (by decide +kernel) rfl
set_option maxRecDepth 20000 in
theorem ac_int : Cond.arrayClass .int ∈ BIG := bw 226 (by decide +kernel) rfl
set_option maxRecDepth 20000 in
theorem ac_char : Cond.arrayClass .char ∈ BIG := bw 157 (by decide +kernel) rfl
set_option maxRecDepth 20000 in
theorem oi_inst : Cond.instanceMethod objectInit ∈ BIG := bw 98 (by decide +kernel) rfl
set_option maxRecDepth 20000 in
theorem oi_code : Cond.code objectInit ⟨#[0xb1]⟩ 1 none ∈ BIG := bw 99 (by decide +kernel) rfl
set_option maxRecDepth 20000 in
theorem oi_X6_1 : Cond.methodLink RX6 1 objectInit ∈ BIG := bw 97 (by decide +kernel) rfl
set_option maxRecDepth 20000 in
theorem oi_X0_3 : Cond.methodLink RX0 3 objectInit ∈ BIG := bw 163 (by decide +kernel) rfl
set_option maxRecDepth 20000 in
theorem oi_X1_3 : Cond.methodLink RX1 3 objectInit ∈ BIG := bw 214 (by decide +kernel) rfl
set_option maxRecDepth 20000 in
theorem oi_X2_3 : Cond.methodLink RX2 3 objectInit ∈ BIG := bw 105 (by decide +kernel) rfl
set_option maxRecDepth 20000 in
theorem oi_X3_3 : Cond.methodLink RX3 3 objectInit ∈ BIG := bw 232 (by decide +kernel) rfl
set_option maxRecDepth 20000 in
theorem oi_X4_3 : Cond.methodLink RX4 3 objectInit ∈ BIG := bw 183 (by decide +kernel) rfl
set_option maxRecDepth 20000 in
theorem oi_X5_3 : Cond.methodLink RX5 3 objectInit ∈ BIG := bw 524 (by decide +kernel) rfl
set_option maxRecDepth 20000 in
theorem oi_X7_1 : Cond.methodLink RX7 1 objectInit ∈ BIG := bw 841 (by decide +kernel) rfl
set_option maxRecDepth 20000 in
theorem oi_Jxa1e45_1 : Cond.methodLink RJxa1e45 1 objectInit ∈ BIG := bw 117 (by decide +kernel) rfl

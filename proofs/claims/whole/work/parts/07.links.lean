/-! METHOD DATA AND LINKS, by program (wip/whole/gen_links.py) -/
def mX11_init : EM := (yX11_init, cX11_init, 2, none, [])
def mX10_init : EM := (yX10_init, cX10_init, 1, none, [])
def mX8_init : EM := (yX8_init, cX8_init, 2, none, [])
def mX3_init : EM := (yX3_init, cX3_init, 2, none, [])
def mX9_init : EM := (yX9_init, cX9_init, 1, none, [])
def mJ9_min_7cf53 : EM := (yJ9_min_7cf53, cJ9_min_7cf53, 2, (some .int), [])
def mJ9_max_7cf53 : EM := (yJ9_max_7cf53, cJ9_max_7cf53, 2, (some .int), [])
def mX6_init : EM := (yX6_init, cX6_init, 2, none, [])
def mX1_init : EM := (yX1_init, cX1_init, 1, none, [])
def mX7_init : EM := (yX7_init, cX7_init, 1, none, [])
def mX11_write : EM := (yX11_write, cX11_write, 3, (some .boolean), [])
def mX10_append : EM := (yX10_append, cX10_append, 6, (some .boolean), [])
def mX11_byteOf : EM := (yX11_byteOf, cX11_byteOf, 3, (some .int), [])
def mX10_appendCode : EM := (yX10_appendCode, cX10_appendCode, 2, none, [])
def mX11_position : EM := (yX11_position, cX11_position, 1, (some .int), [])
def mX11_cut : EM := (yX11_cut, cX11_cut, 2, (some .boolean), [])
def mX3_shorten : EM := (yX3_shorten, cX3_shorten, 2, (some .boolean), [])
def mX11_fault : EM := (yX11_fault, cX11_fault, 1, (some .int), [])
def mX11_made : EM := (yX11_made, cX11_made, 4, (some .int), [])
def mX7_productAt : EM := (yX7_productAt, cX7_productAt, 4, (some .int), [])
def mX7_has : EM := (yX7_has, cX7_has, 4, (some .boolean), [])
def mX11_cellOf : EM := (yX11_cellOf, cX11_cellOf, 3, (some .int), [])
def mX11_flow : EM := (yX11_flow, cX11_flow, 3, (some .int), [])
def mX7_hasType : EM := (yX7_hasType, cX7_hasType, 2, (some .boolean), [])
def mX7_stepsBetween : EM := (yX7_stepsBetween, cX7_stepsBetween, 5, (some .int), [])
def mX11_hasBit : EM := (yX11_hasBit, cX11_hasBit, 2, (some .boolean), [])
def mX7_spread : EM := (yX7_spread, cX7_spread, 5, (some .int), [])
def mX7_flowsInOneStep : EM := (yX7_flowsInOneStep, cX7_flowsInOneStep, 4, (some .boolean), [])
def mX7_permitted : EM := (yX7_permitted, cX7_permitted, 5, (some .int), [])
def mX7_rankOf : EM := (yX7_rankOf, cX7_rankOf, 2, (some .int), [])
def mX7_maskAt : EM := (yX7_maskAt, cX7_maskAt, 3, (some .int), [])
def mX7_hasMask : EM := (yX7_hasMask, cX7_hasMask, 3, (some .boolean), [])
def mX7_allowedAt : EM := (yX7_allowedAt, cX7_allowedAt, 4, (some .int), [])
def mX11_count : EM := (yX11_count, cX11_count, 2, (some .int), [])
def mX7_types : EM := (yX7_types, cX7_types, 1, (some .int), [])
def mX7_classes : EM := (yX7_classes, cX7_classes, 1, (some .int), [])
def mX6_hits : EM := (yX6_hits, cX6_hits, 1, (some .int), [])
def mX6_misses : EM := (yX6_misses, cX6_misses, 1, (some .int), [])
def mX6_size : EM := (yX6_size, cX6_size, 1, (some .int), [])
def mX3_size : EM := (yX3_size, cX3_size, 1, (some .int), [])
def mX11_image : EM := (yX11_image, cX11_image, 1, (some .int), [])
def mX4_encode : EM := (yX4_encode, cX4_encode, 3, none, [])
def mX1_clear : EM := (yX1_clear, cX1_clear, 1, none, [])
def mX1_push : EM := (yX1_push, cX1_push, 2, none, [])
def mX7_permissionsOf : EM := (yX7_permissionsOf, cX7_permissionsOf, 2, (some .int), [])
def mX4_encodeClass : EM := (yX4_encodeClass, cX4_encodeClass, 5, none, [])
def mX1_length : EM := (yX1_length, cX1_length, 1, (some .int), [])
def mX11_imageAt : EM := (yX11_imageAt, cX11_imageAt, 2, (some .int), [])
def mX1_byteAt : EM := (yX1_byteAt, cX1_byteAt, 2, (some .int), [])
def mX11_feed : EM := (yX11_feed, cX11_feed, 5, (some .int), [])
def mX1_room : EM := (yX1_room, cX1_room, 1, (some .int), [])
def mL_cell : EM := (yL_cell, cL_cell, 2, (some .int), [])
def mL_add : EM := (yL_add, cL_add, 3, (some .int), [(0, 8, 11, 13), (0, 8, 14, 15)])
def mX11_add : EM := (yX11_add, cX11_add, 2, (some .int), [])
def mX3_spare : EM := (yX3_spare, cX3_spare, 1, (some (.object "PolicyDesk$Statement")), [])
def mX8_parse : EM := (yX8_parse, cX8_parse, 3, (some .boolean), [])
def mX8_keyword : EM := (yX8_keyword, cX8_keyword, 4, (some .boolean), [])
def mX8_lettersShared : EM := (yX8_lettersShared, cX8_lettersShared, 3, (some .int), [])
def mJ0_length_8abf5 : EM := (yJ0_length_8abf5, cJ0_length_8abf5, 1, (some .int), [])
def mJ0_coder_7d493 : EM := (yJ0_coder_7d493, cJ0_coder_7d493, 1, (some .byte), [])
def mX10_codeAt : EM := (yX10_codeAt, cX10_codeAt, 2, (some .int), [])
def mJ0_charAt_5068e : EM := (yJ0_charAt_5068e, cJ0_charAt_5068e, 2, (some .char), [])
def mJ0_isLatin1_aae02 : EM := (yJ0_isLatin1_aae02, cJ0_isLatin1_aae02, 1, (some .boolean), [])
def mJ1_charAt_3b067 : EM := (yJ1_charAt_3b067, cJ1_charAt_3b067, 2, (some .char), [])
def mJ0_checkIndex_df160 : EM := (yJ0_checkIndex_df160, cJ0_checkIndex_df160, 2, none, [])
def mJ3_checkIndex_8e157 : EM := (yJ3_checkIndex_8e157, cJ3_checkIndex_8e157, 3, (some .int), [])
def mJ2_charAt_3b067 : EM := (yJ2_charAt_3b067, cJ2_charAt_3b067, 2, (some .char), [])
def mJ2_checkIndex_2214a : EM := (yJ2_checkIndex_2214a, cJ2_checkIndex_2214a, 2, none, [])
def mJ2_length_9d52b : EM := (yJ2_length_9d52b, cJ2_length_9d52b, 1, (some .int), [])
def mJ2_getChar_3b067 : EM := (yJ2_getChar_3b067, cJ2_getChar_3b067, 2, (some .char), [])
def mX9_begin : EM := (yX9_begin, cX9_begin, 2, none, [])
def mX9_kind : EM := (yX9_kind, cX9_kind, 1, (some (.object "PolicyDesk$Kind")), [])
def mX8_names : EM := (yX8_names, cX8_names, 4, (some .boolean), [])
def mX8_blank : EM := (yX8_blank, cX8_blank, 1, (some .boolean), [])
def mX8_name : EM := (yX8_name, cX8_name, 4, (some .boolean), [])
def mX8_isLetter : EM := (yX8_isLetter, cX8_isLetter, 1, (some .boolean), [])
def mX9_push : EM := (yX9_push, cX9_push, 2, none, [])
def mX8_mark : EM := (yX8_mark, cX8_mark, 4, (some .boolean), [])
def mJ0_isEmpty_aae02 : EM := (yJ0_isEmpty_aae02, cJ0_isEmpty_aae02, 1, (some .boolean), [])
def mX8_atEnd : EM := (yX8_atEnd, cX8_atEnd, 1, (some .boolean), [])
def mX10_length : EM := (yX10_length, cX10_length, 1, (some .int), [])
def mJ0_indexOf_0f7a4 : EM := (yJ0_indexOf_0f7a4, cJ0_indexOf_0f7a4, 2, (some .int), [])
def mJ0_indexOf_7cf53 : EM := (yJ0_indexOf_7cf53, cJ0_indexOf_7cf53, 3, (some .int), [])
def mJ1_indexOf_4cfef : EM := (yJ1_indexOf_4cfef, cJ1_indexOf_4cfef, 4, (some .int), [])
def mJ1_canEncode_9a6ad : EM := (yJ1_canEncode_9a6ad, cJ1_canEncode_9a6ad, 1, (some .boolean), [])
def mJ1_indexOfChar_4cfef : EM := (yJ1_indexOfChar_4cfef, cJ1_indexOfChar_4cfef, 6, (some .int), [])
def mJ2_indexOf_4cfef : EM := (yJ2_indexOf_4cfef, cJ2_indexOf_4cfef, 4, (some .int), [])
def mJ2_indexOfChar_4cfef : EM := (yJ2_indexOfChar_4cfef, cJ2_indexOfChar_4cfef, 4, (some .int), [])
def mJ2_checkBoundsBeginEnd_d044e : EM := (yJ2_checkBoundsBeginEnd_d044e, cJ2_checkBoundsBeginEnd_d044e, 3, none, [])
def mJ0_checkBoundsBeginEnd_23922 : EM := (yJ0_checkBoundsBeginEnd_23922, cJ0_checkBoundsBeginEnd_23922, 3, none, [])
def mJ3_checkFromToIndex_8c36e : EM := (yJ3_checkFromToIndex_8c36e, cJ3_checkFromToIndex_8c36e, 4, (some .int), [])
def mJ2_indexOfCharUnsafe_4cfef : EM := (yJ2_indexOfCharUnsafe_4cfef, cJ2_indexOfCharUnsafe_4cfef, 5, (some .int), [])
def mJ2_indexOfSupplementary_4cfef : EM := (yJ2_indexOfSupplementary_4cfef, cJ2_indexOfSupplementary_4cfef, 7, (some .int), [])
def mJ11_isValidCodePoint_9a6ad : EM := (yJ11_isValidCodePoint_9a6ad, cJ11_isValidCodePoint_9a6ad, 2, (some .boolean), [])
def mJ11_highSurrogate_5068e : EM := (yJ11_highSurrogate_5068e, cJ11_highSurrogate_5068e, 1, (some .char), [])
def mJ11_lowSurrogate_5068e : EM := (yJ11_lowSurrogate_5068e, cJ11_lowSurrogate_5068e, 1, (some .char), [])
def mX9_setMark : EM := (yX9_setMark, cX9_setMark, 2, none, [])
def mX8_list : EM := (yX8_list, cX8_list, 5, (some .boolean), [])
def mX8_stoppedAt : EM := (yX8_stoppedAt, cX8_stoppedAt, 1, (some .int), [])
def mX10_clear : EM := (yX10_clear, cX10_clear, 1, none, [])
def mX3_hasRoom : EM := (yX3_hasRoom, cX3_hasRoom, 1, (some .boolean), [])
def mX3_keepSpare : EM := (yX3_keepSpare, cX3_keepSpare, 2, (some .int), [])
def mL_accept : EM := (yL_accept, cL_accept, 3, (some .int), [(0, 8, 11, 13), (0, 8, 14, 15)])
def mX11_accept : EM := (yX11_accept, cX11_accept, 1, (some .int), [])
def mX3_firstWrong : EM := (yX3_firstWrong, cX3_firstWrong, 2, (some .int), [])
def mX3_isWrong : EM := (yX3_isWrong, cX3_isWrong, 3, (some .boolean), [])
def mJx29ce0_ordinal_8abf5 : EM := (yJx29ce0_ordinal_8abf5, cJx29ce0_ordinal_8abf5, 1, (some .int), [])
def mX3_repeats : EM := (yX3_repeats, cX3_repeats, 4, (some .boolean), [])
def mX9_beginsAs : EM := (yX9_beginsAs, cX9_beginsAs, 4, (some .boolean), [])
def mX9_word : EM := (yX9_word, cX9_word, 2, (some .int), [])
def mX9_allDifferFrom : EM := (yX9_allDifferFrom, cX9_allDifferFrom, 3, (some .boolean), [])
def mX9_find : EM := (yX9_find, cX9_find, 4, (some .int), [])
def mX3_howMany : EM := (yX3_howMany, cX3_howMany, 5, (some .int), [])
def mX3_isAttribute : EM := (yX3_isAttribute, cX3_isAttribute, 3, (some .boolean), [])
def mX3_isDoer : EM := (yX3_isDoer, cX3_isDoer, 2, (some .boolean), [])
def mX3_isType : EM := (yX3_isType, cX3_isType, 2, (some .boolean), [])
def mX3_numberOf : EM := (yX3_numberOf, cX3_numberOf, 5, (some .int), [])
def mX3_declaresPermissions : EM := (yX3_declaresPermissions, cX3_declaresPermissions, 4, (some .boolean), [])
def mX9_size : EM := (yX9_size, cX9_size, 1, (some .int), [])
def mX3_declaresPermission : EM := (yX3_declaresPermission, cX3_declaresPermission, 5, (some .boolean), [])
def mX2_compose : EM := (yX2_compose, cX2_compose, 3, none, [])
def mX7_clear : EM := (yX7_clear, cX7_clear, 1, none, [])
def mJ7_fill_53178 : EM := (yJ7_fill_53178, cJ7_fill_53178, 4, none, [])
def mX3_row : EM := (yX3_row, cX3_row, 2, (some (.object "PolicyDesk$Statement")), [])
def mX2_declare : EM := (yX2_declare, cX2_declare, 2, none, [])
def mX7_declareType : EM := (yX7_declareType, cX7_declareType, 1, none, [])
def mX7_declareClass : EM := (yX7_declareClass, cX7_declareClass, 2, none, [])
def mX2_apply : EM := (yX2_apply, cX2_apply, 3, none, [])
def mX2_allow : EM := (yX2_allow, cX2_allow, 8, none, [])
def mX3_typesNamed : EM := (yX3_typesNamed, cX3_typesNamed, 5, (some .int), [])
def mX3_maskOf : EM := (yX3_maskOf, cX3_maskOf, 7, (some .int), [])
def mX2_othersFor : EM := (yX2_othersFor, cX2_othersFor, 3, (some .int), [])
def mX7_addAllowed : EM := (yX7_addAllowed, cX7_addAllowed, 6, none, [])
def mX7_setProduct : EM := (yX7_setProduct, cX7_setProduct, 5, none, [])
def mX9_mark : EM := (yX9_mark, cX9_mark, 1, (some .int), [])
def mX7_setRank : EM := (yX7_setRank, cX7_setRank, 3, none, [])
def mX2_widen : EM := (yX2_widen, cX2_widen, 4, none, [])
def mX7_addToMask : EM := (yX7_addToMask, cX7_addToMask, 4, none, [])
def mX2_firstAgainst : EM := (yX2_firstAgainst, cX2_firstAgainst, 3, (some .int), [])
def mX2_isAgainst : EM := (yX2_isAgainst, cX2_isAgainst, 8, (some .boolean), [])
def mX7_allowsSome : EM := (yX7_allowsSome, cX7_allowsSome, 6, (some .boolean), [])
def mX11_putInForce : EM := (yX11_putInForce, cX11_putInForce, 2, (some .int), [])
def mX6_forget : EM := (yX6_forget, cX6_forget, 1, none, [])
def mL_may : EM := (yL_may, cL_may, 6, (some .int), [(0, 12, 15, 24)])
def mX11_may : EM := (yX11_may, cX11_may, 7, (some .int), [])
def mX6_recall : EM := (yX6_recall, cX6_recall, 4, (some .int), [])
def mX6_drop : EM := (yX6_drop, cX6_drop, 3, none, [])
def mX6_append : EM := (yX6_append, cX6_append, 3, none, [])
def mX6_keep : EM := (yX6_keep, cX6_keep, 3, none, [])
def mL_read : EM := (yL_read, cL_read, 3, (some .int), [(0, 8, 11, 13)])
def mX11_read : EM := (yX11_read, cX11_read, 2, (some .int), [])
def mX4_decode : EM := (yX4_decode, cX4_decode, 5, (some .boolean), [])
def mX1_rewind : EM := (yX1_rewind, cX1_rewind, 1, none, [])
def mX1_take : EM := (yX1_take, cX1_take, 4, (some .int), [])
def mX4_decodeClass : EM := (yX4_decodeClass, cX4_decodeClass, 6, none, [])
def mX7_setAllowed : EM := (yX7_setAllowed, cX7_setAllowed, 5, none, [])
def mX1_isTakenWhole : EM := (yX1_isTakenWhole, cX1_isTakenWhole, 1, (some .boolean), [])
def mX12_init : EM := (yX12_init, cX12_init, 2, none, [])
def mX12_thrown : EM := (yX12_thrown, cX12_thrown, 1, (some .int), [])
def mX12_write : EM := (yX12_write, cX12_write, 6, (some .boolean), [])
def mX12_add : EM := (yX12_add, cX12_add, 2, (some .int), [])
def mX12_readStatement : EM := (yX12_readStatement, cX12_readStatement, 4, (some .boolean), [])
def mX12_readKind : EM := (yX12_readKind, cX12_readKind, 8, (some .int), [])
def mX12_keyword : EM := (yX12_keyword, cX12_keyword, 1, (some .int), [])
def mX12_word : EM := (yX12_word, cX12_word, 6, (some .int), [])
def mX12_isLetter : EM := (yX12_isLetter, cX12_isLetter, 1, (some .boolean), [])
def mX12_here : EM := (yX12_here, cX12_here, 1, (some .char), [])
def mX12_readNames : EM := (yX12_readNames, cX12_readNames, 6, (some .boolean), [])
def mX12_readName : EM := (yX12_readName, cX12_readName, 3, (some .int), [])
def mX12_readExtra : EM := (yX12_readExtra, cX12_readExtra, 5, (some .boolean), [])
def mX12_position : EM := (yX12_position, cX12_position, 1, (some .int), [])
def mX12_cut : EM := (yX12_cut, cX12_cut, 2, (some .boolean), [])
def mX12_accept : EM := (yX12_accept, cX12_accept, 4, (some .int), [])
def mX12_firstWrong : EM := (yX12_firstWrong, cX12_firstWrong, 3, (some .int), [])
def mX12_isWrong : EM := (yX12_isWrong, cX12_isWrong, 5, (some .boolean), [])
def mX12_nameAt : EM := (yX12_nameAt, cX12_nameAt, 3, (some .int), [])
def mX12_before : EM := (yX12_before, cX12_before, 6, (some .int), [])
def mX12_allDifferent : EM := (yX12_allDifferent, cX12_allDifferent, 5, (some .boolean), [])
def mX12_isAttribute : EM := (yX12_isAttribute, cX12_isAttribute, 5, (some .boolean), [])
def mX12_twice : EM := (yX12_twice, cX12_twice, 3, (some .boolean), [])
def mX12_isType : EM := (yX12_isType, cX12_isType, 2, (some .boolean), [])
def mX12_isClass : EM := (yX12_isClass, cX12_isClass, 2, (some .boolean), [])
def mX12_isSelf : EM := (yX12_isSelf, cX12_isSelf, 1, (some .boolean), [])
def mX12_arePermissions : EM := (yX12_arePermissions, cX12_arePermissions, 6, (some .boolean), [])
def mX12_isPermission : EM := (yX12_isPermission, cX12_isPermission, 6, (some .boolean), [])
def mX12_firstAgainst : EM := (yX12_firstAgainst, cX12_firstAgainst, 6, (some .int), [])
def mX12_shared : EM := (yX12_shared, cX12_shared, 6, (some .boolean), [])
def mX12_isAbout : EM := (yX12_isAbout, cX12_isAbout, 5, (some .boolean), [])
def mX12_typeStatement : EM := (yX12_typeStatement, cX12_typeStatement, 4, (some .int), [])
def mX12_standsFor : EM := (yX12_standsFor, cX12_standsFor, 5, (some .boolean), [])
def mX12_begin : EM := (yX12_begin, cX12_begin, 2, none, [])
def mX12_put : EM := (yX12_put, cX12_put, 7, none, [])
def mX12_classNumber : EM := (yX12_classNumber, cX12_classNumber, 3, (some .int), [])
def mX12_maskOf : EM := (yX12_maskOf, cX12_maskOf, 9, (some .int), [])
def mX12_typeNumber : EM := (yX12_typeNumber, cX12_typeNumber, 3, (some .int), [])
def mX12_fault : EM := (yX12_fault, cX12_fault, 1, (some .int), [])
def mX12_may : EM := (yX12_may, cX12_may, 8, (some .int), [])
def mX12_isThere : EM := (yX12_isThere, cX12_isThere, 4, (some .boolean), [])
def mX12_worked : EM := (yX12_worked, cX12_worked, 5, (some .int), [])
def mX12_made : EM := (yX12_made, cX12_made, 4, (some .int), [])
def mX12_flow : EM := (yX12_flow, cX12_flow, 6, (some .int), [])
def mX12_flows : EM := (yX12_flows, cX12_flows, 5, (some .boolean), [])
def mX12_count : EM := (yX12_count, cX12_count, 2, (some .int), [])
def mX12_image : EM := (yX12_image, cX12_image, 3, (some .int), [])
def mX12_say : EM := (yX12_say, cX12_say, 2, none, [])
def mX12_imageAt : EM := (yX12_imageAt, cX12_imageAt, 2, (some .int), [])
def mX12_feed : EM := (yX12_feed, cX12_feed, 5, (some .int), [])
def mX12_read : EM := (yX12_read, cX12_read, 6, (some .int), [])
def mX12_wellFormed : EM := (yX12_wellFormed, cX12_wellFormed, 9, (some .boolean), [])
def mX12_in : EM := (yX12_in, cX12_in, 3, (some .boolean), [])
theorem innX1 : ∀ w ∈ u_ws RX1 TX1 4, w ∈ egood := by decide +kernel
theorem innX3 : ∀ w ∈ u_ws RX3 TX3 2, w ∈ egood := by decide +kernel
theorem innX6 : ∀ w ∈ u_ws RX6 TX6 5, w ∈ egood := by decide +kernel
theorem innX7 : ∀ w ∈ u_ws RX7 TX7 7, w ∈ egood := by decide +kernel
theorem innX8 : ∀ w ∈ u_ws RX8 TX8 2, w ∈ egood := by decide +kernel
theorem innX9 : ∀ w ∈ u_ws RX9 TX9 4, w ∈ egood := by decide +kernel
theorem innX10 : ∀ w ∈ u_ws RX10 TX10 2, w ∈ egood := by decide +kernel
theorem innX11 : ∀ w ∈ u_ws RX11 TX11 10, w ∈ egood := by decide +kernel
theorem innX12 : ∀ w ∈ u_ws RX12 TX12 32, w ∈ egood := by decide +kernel
theorem caX11_init : ECA mX11_init 1 := ⟨eg 58 (by decide +kernel) rfl, eg 89 (by decide +kernel) rfl, ⟨by decide +kernel, by decide +kernel, by decide +kernel⟩, by decide, rfl⟩
theorem caX10_init : ECA mX10_init 0 := ⟨eg 59 (by decide +kernel) rfl, eg 97 (by decide +kernel) rfl, ⟨by decide +kernel, by decide +kernel, by decide +kernel⟩, by decide, rfl⟩
theorem caX8_init : ECA mX8_init 1 := ⟨eg 60 (by decide +kernel) rfl, eg 111 (by decide +kernel) rfl, ⟨by decide +kernel, by decide +kernel, by decide +kernel⟩, by decide, rfl⟩
theorem caX3_init : ECA mX3_init 0 := ⟨eg 61 (by decide +kernel) rfl, eg 124 (by decide +kernel) rfl, ⟨by decide +kernel, by decide +kernel, by decide +kernel⟩, by decide, rfl⟩
theorem caX9_init : ECA mX9_init 0 := ⟨eg 62 (by decide +kernel) rfl, eg 131 (by decide +kernel) rfl, ⟨by decide +kernel, by decide +kernel, by decide +kernel⟩, by decide, rfl⟩
theorem caJ9_min_7cf53 : ECA mJ9_min_7cf53 2 := ⟨eg 66 (by decide +kernel) rfl, eg 159 (by decide +kernel) rfl, ⟨by decide +kernel, by decide +kernel, by decide +kernel⟩, by decide, rfl⟩
theorem caJ9_max_7cf53 : ECA mJ9_max_7cf53 2 := ⟨eg 66 (by decide +kernel) rfl, eg 162 (by decide +kernel) rfl, ⟨by decide +kernel, by decide +kernel, by decide +kernel⟩, by decide, rfl⟩
theorem caX6_init : ECA mX6_init 1 := ⟨eg 65 (by decide +kernel) rfl, eg 165 (by decide +kernel) rfl, ⟨by decide +kernel, by decide +kernel, by decide +kernel⟩, by decide, rfl⟩
theorem caX1_init : ECA mX1_init 0 := ⟨eg 67 (by decide +kernel) rfl, eg 187 (by decide +kernel) rfl, ⟨by decide +kernel, by decide +kernel, by decide +kernel⟩, by decide, rfl⟩
theorem caX7_init : ECA mX7_init 0 := ⟨eg 68 (by decide +kernel) rfl, eg 206 (by decide +kernel) rfl, ⟨by decide +kernel, by decide +kernel, by decide +kernel⟩, by decide, rfl⟩
theorem caX11_write : ECA mX11_write 1 := ⟨eg 58 (by decide +kernel) rfl, eg 264 (by decide +kernel) rfl, ⟨by decide +kernel, by decide +kernel, by decide +kernel⟩, by decide, rfl⟩
theorem caX10_append : ECA mX10_append 1 := ⟨eg 59 (by decide +kernel) rfl, eg 268 (by decide +kernel) rfl, ⟨by decide +kernel, by decide +kernel, by decide +kernel⟩, by decide, rfl⟩
theorem caX11_byteOf : ECA mX11_byteOf 2 := ⟨eg 58 (by decide +kernel) rfl, eg 271 (by decide +kernel) rfl, ⟨by decide +kernel, by decide +kernel, by decide +kernel⟩, by decide, rfl⟩
theorem caX10_appendCode : ECA mX10_appendCode 1 := ⟨eg 59 (by decide +kernel) rfl, eg 275 (by decide +kernel) rfl, ⟨by decide +kernel, by decide +kernel, by decide +kernel⟩, by decide, rfl⟩
theorem caX11_position : ECA mX11_position 0 := ⟨eg 58 (by decide +kernel) rfl, eg 279 (by decide +kernel) rfl, ⟨by decide +kernel, by decide +kernel, by decide +kernel⟩, by decide, rfl⟩
theorem caX11_cut : ECA mX11_cut 1 := ⟨eg 58 (by decide +kernel) rfl, eg 283 (by decide +kernel) rfl, ⟨by decide +kernel, by decide +kernel, by decide +kernel⟩, by decide, rfl⟩
theorem caX3_shorten : ECA mX3_shorten 1 := ⟨eg 61 (by decide +kernel) rfl, eg 287 (by decide +kernel) rfl, ⟨by decide +kernel, by decide +kernel, by decide +kernel⟩, by decide, rfl⟩
theorem caX11_fault : ECA mX11_fault 0 := ⟨eg 58 (by decide +kernel) rfl, eg 291 (by decide +kernel) rfl, ⟨by decide +kernel, by decide +kernel, by decide +kernel⟩, by decide, rfl⟩
theorem caX11_made : ECA mX11_made 3 := ⟨eg 58 (by decide +kernel) rfl, eg 295 (by decide +kernel) rfl, ⟨by decide +kernel, by decide +kernel, by decide +kernel⟩, by decide, rfl⟩
theorem caX7_productAt : ECA mX7_productAt 3 := ⟨eg 68 (by decide +kernel) rfl, eg 299 (by decide +kernel) rfl, ⟨by decide +kernel, by decide +kernel, by decide +kernel⟩, by decide, rfl⟩
theorem caX7_has : ECA mX7_has 3 := ⟨eg 68 (by decide +kernel) rfl, eg 303 (by decide +kernel) rfl, ⟨by decide +kernel, by decide +kernel, by decide +kernel⟩, by decide, rfl⟩
theorem caX11_cellOf : ECA mX11_cellOf 3 := ⟨eg 58 (by decide +kernel) rfl, eg 306 (by decide +kernel) rfl, ⟨by decide +kernel, by decide +kernel, by decide +kernel⟩, by decide, rfl⟩
theorem caX11_flow : ECA mX11_flow 2 := ⟨eg 58 (by decide +kernel) rfl, eg 310 (by decide +kernel) rfl, ⟨by decide +kernel, by decide +kernel, by decide +kernel⟩, by decide, rfl⟩
theorem caX7_hasType : ECA mX7_hasType 1 := ⟨eg 68 (by decide +kernel) rfl, eg 314 (by decide +kernel) rfl, ⟨by decide +kernel, by decide +kernel, by decide +kernel⟩, by decide, rfl⟩
theorem caX7_stepsBetween : ECA mX7_stepsBetween 2 := ⟨eg 68 (by decide +kernel) rfl, eg 318 (by decide +kernel) rfl, ⟨by decide +kernel, by decide +kernel, by decide +kernel⟩, by decide, rfl⟩
theorem caX11_hasBit : ECA mX11_hasBit 2 := ⟨eg 58 (by decide +kernel) rfl, eg 321 (by decide +kernel) rfl, ⟨by decide +kernel, by decide +kernel, by decide +kernel⟩, by decide, rfl⟩
theorem caX7_spread : ECA mX7_spread 1 := ⟨eg 68 (by decide +kernel) rfl, eg 325 (by decide +kernel) rfl, ⟨by decide +kernel, by decide +kernel, by decide +kernel⟩, by decide, rfl⟩
theorem caX7_flowsInOneStep : ECA mX7_flowsInOneStep 2 := ⟨eg 68 (by decide +kernel) rfl, eg 329 (by decide +kernel) rfl, ⟨by decide +kernel, by decide +kernel, by decide +kernel⟩, by decide, rfl⟩
theorem caX7_permitted : ECA mX7_permitted 3 := ⟨eg 68 (by decide +kernel) rfl, eg 333 (by decide +kernel) rfl, ⟨by decide +kernel, by decide +kernel, by decide +kernel⟩, by decide, rfl⟩
theorem caX7_rankOf : ECA mX7_rankOf 1 := ⟨eg 68 (by decide +kernel) rfl, eg 337 (by decide +kernel) rfl, ⟨by decide +kernel, by decide +kernel, by decide +kernel⟩, by decide, rfl⟩
theorem caX7_maskAt : ECA mX7_maskAt 2 := ⟨eg 68 (by decide +kernel) rfl, eg 342 (by decide +kernel) rfl, ⟨by decide +kernel, by decide +kernel, by decide +kernel⟩, by decide, rfl⟩
theorem caX7_hasMask : ECA mX7_hasMask 2 := ⟨eg 68 (by decide +kernel) rfl, eg 346 (by decide +kernel) rfl, ⟨by decide +kernel, by decide +kernel, by decide +kernel⟩, by decide, rfl⟩
theorem caX7_allowedAt : ECA mX7_allowedAt 3 := ⟨eg 68 (by decide +kernel) rfl, eg 350 (by decide +kernel) rfl, ⟨by decide +kernel, by decide +kernel, by decide +kernel⟩, by decide, rfl⟩
theorem caX11_count : ECA mX11_count 1 := ⟨eg 58 (by decide +kernel) rfl, eg 354 (by decide +kernel) rfl, ⟨by decide +kernel, by decide +kernel, by decide +kernel⟩, by decide, rfl⟩
theorem caX7_types : ECA mX7_types 0 := ⟨eg 68 (by decide +kernel) rfl, eg 358 (by decide +kernel) rfl, ⟨by decide +kernel, by decide +kernel, by decide +kernel⟩, by decide, rfl⟩
theorem caX7_classes : ECA mX7_classes 0 := ⟨eg 68 (by decide +kernel) rfl, eg 362 (by decide +kernel) rfl, ⟨by decide +kernel, by decide +kernel, by decide +kernel⟩, by decide, rfl⟩
theorem caX6_hits : ECA mX6_hits 0 := ⟨eg 65 (by decide +kernel) rfl, eg 366 (by decide +kernel) rfl, ⟨by decide +kernel, by decide +kernel, by decide +kernel⟩, by decide, rfl⟩
theorem caX6_misses : ECA mX6_misses 0 := ⟨eg 65 (by decide +kernel) rfl, eg 370 (by decide +kernel) rfl, ⟨by decide +kernel, by decide +kernel, by decide +kernel⟩, by decide, rfl⟩
theorem caX6_size : ECA mX6_size 0 := ⟨eg 65 (by decide +kernel) rfl, eg 374 (by decide +kernel) rfl, ⟨by decide +kernel, by decide +kernel, by decide +kernel⟩, by decide, rfl⟩
theorem caX3_size : ECA mX3_size 0 := ⟨eg 61 (by decide +kernel) rfl, eg 378 (by decide +kernel) rfl, ⟨by decide +kernel, by decide +kernel, by decide +kernel⟩, by decide, rfl⟩
theorem caX11_image : ECA mX11_image 0 := ⟨eg 58 (by decide +kernel) rfl, eg 382 (by decide +kernel) rfl, ⟨by decide +kernel, by decide +kernel, by decide +kernel⟩, by decide, rfl⟩
theorem caX4_encode : ECA mX4_encode 2 := ⟨eg 84 (by decide +kernel) rfl, eg 385 (by decide +kernel) rfl, ⟨by decide +kernel, by decide +kernel, by decide +kernel⟩, by decide, rfl⟩
theorem caX1_clear : ECA mX1_clear 0 := ⟨eg 67 (by decide +kernel) rfl, eg 389 (by decide +kernel) rfl, ⟨by decide +kernel, by decide +kernel, by decide +kernel⟩, by decide, rfl⟩
theorem caX1_push : ECA mX1_push 1 := ⟨eg 67 (by decide +kernel) rfl, eg 394 (by decide +kernel) rfl, ⟨by decide +kernel, by decide +kernel, by decide +kernel⟩, by decide, rfl⟩
theorem caX7_permissionsOf : ECA mX7_permissionsOf 1 := ⟨eg 68 (by decide +kernel) rfl, eg 399 (by decide +kernel) rfl, ⟨by decide +kernel, by decide +kernel, by decide +kernel⟩, by decide, rfl⟩
theorem caX4_encodeClass : ECA mX4_encodeClass 3 := ⟨eg 84 (by decide +kernel) rfl, eg 403 (by decide +kernel) rfl, ⟨by decide +kernel, by decide +kernel, by decide +kernel⟩, by decide, rfl⟩
theorem caX1_length : ECA mX1_length 0 := ⟨eg 67 (by decide +kernel) rfl, eg 410 (by decide +kernel) rfl, ⟨by decide +kernel, by decide +kernel, by decide +kernel⟩, by decide, rfl⟩
theorem caX11_imageAt : ECA mX11_imageAt 1 := ⟨eg 58 (by decide +kernel) rfl, eg 414 (by decide +kernel) rfl, ⟨by decide +kernel, by decide +kernel, by decide +kernel⟩, by decide, rfl⟩
theorem caX1_byteAt : ECA mX1_byteAt 1 := ⟨eg 67 (by decide +kernel) rfl, eg 418 (by decide +kernel) rfl, ⟨by decide +kernel, by decide +kernel, by decide +kernel⟩, by decide, rfl⟩
theorem caX11_feed : ECA mX11_feed 2 := ⟨eg 58 (by decide +kernel) rfl, eg 422 (by decide +kernel) rfl, ⟨by decide +kernel, by decide +kernel, by decide +kernel⟩, by decide, rfl⟩
theorem caX1_room : ECA mX1_room 0 := ⟨eg 67 (by decide +kernel) rfl, eg 426 (by decide +kernel) rfl, ⟨by decide +kernel, by decide +kernel, by decide +kernel⟩, by decide, rfl⟩
theorem caL_cell : ECA mL_cell 2 := ⟨eg 57 (by decide +kernel) rfl, eg 431 (by decide +kernel) rfl, ⟨by decide +kernel, by decide +kernel, by decide +kernel⟩, by decide, rfl⟩
theorem caX11_add : ECA mX11_add 0 := ⟨eg 58 (by decide +kernel) rfl, eg 440 (by decide +kernel) rfl, ⟨by decide +kernel, by decide +kernel, by decide +kernel⟩, by decide, rfl⟩
theorem caX3_spare : ECA mX3_spare 0 := ⟨eg 61 (by decide +kernel) rfl, eg 444 (by decide +kernel) rfl, ⟨by decide +kernel, by decide +kernel, by decide +kernel⟩, by decide, rfl⟩
theorem caX8_parse : ECA mX8_parse 1 := ⟨eg 60 (by decide +kernel) rfl, eg 448 (by decide +kernel) rfl, ⟨by decide +kernel, by decide +kernel, by decide +kernel⟩, by decide, rfl⟩
theorem caX8_keyword : ECA mX8_keyword 1 := ⟨eg 60 (by decide +kernel) rfl, eg 452 (by decide +kernel) rfl, ⟨by decide +kernel, by decide +kernel, by decide +kernel⟩, by decide, rfl⟩
theorem caX8_lettersShared : ECA mX8_lettersShared 1 := ⟨eg 60 (by decide +kernel) rfl, eg 458 (by decide +kernel) rfl, ⟨by decide +kernel, by decide +kernel, by decide +kernel⟩, by decide, rfl⟩
theorem caJ0_length_8abf5 : ECA mJ0_length_8abf5 0 := ⟨eg 70 (by decide +kernel) rfl, eg 462 (by decide +kernel) rfl, ⟨by decide +kernel, by decide +kernel, by decide +kernel⟩, by decide, rfl⟩
theorem caJ0_coder_7d493 : ECA mJ0_coder_7d493 0 := ⟨eg 70 (by decide +kernel) rfl, eg 466 (by decide +kernel) rfl, ⟨by decide +kernel, by decide +kernel, by decide +kernel⟩, by decide, rfl⟩
theorem caX10_codeAt : ECA mX10_codeAt 1 := ⟨eg 59 (by decide +kernel) rfl, eg 472 (by decide +kernel) rfl, ⟨by decide +kernel, by decide +kernel, by decide +kernel⟩, by decide, rfl⟩
theorem caJ0_charAt_5068e : ECA mJ0_charAt_5068e 1 := ⟨eg 70 (by decide +kernel) rfl, eg 476 (by decide +kernel) rfl, ⟨by decide +kernel, by decide +kernel, by decide +kernel⟩, by decide, rfl⟩
theorem caJ0_isLatin1_aae02 : ECA mJ0_isLatin1_aae02 0 := ⟨eg 70 (by decide +kernel) rfl, eg 480 (by decide +kernel) rfl, ⟨by decide +kernel, by decide +kernel, by decide +kernel⟩, by decide, rfl⟩
theorem caJ1_charAt_3b067 : ECA mJ1_charAt_3b067 2 := ⟨eg 71 (by decide +kernel) rfl, eg 483 (by decide +kernel) rfl, ⟨by decide +kernel, by decide +kernel, by decide +kernel⟩, by decide, rfl⟩
theorem caJ0_checkIndex_df160 : ECA mJ0_checkIndex_df160 2 := ⟨eg 70 (by decide +kernel) rfl, eg 486 (by decide +kernel) rfl, ⟨by decide +kernel, by decide +kernel, by decide +kernel⟩, by decide, rfl⟩
theorem caJ3_checkIndex_8e157 : ECA mJ3_checkIndex_8e157 3 := ⟨eg 72 (by decide +kernel) rfl, eg 491 (by decide +kernel) rfl, ⟨by decide +kernel, by decide +kernel, by decide +kernel⟩, by decide, rfl⟩
theorem caJ2_charAt_3b067 : ECA mJ2_charAt_3b067 2 := ⟨eg 73 (by decide +kernel) rfl, eg 494 (by decide +kernel) rfl, ⟨by decide +kernel, by decide +kernel, by decide +kernel⟩, by decide, rfl⟩
theorem caJ2_checkIndex_2214a : ECA mJ2_checkIndex_2214a 2 := ⟨eg 73 (by decide +kernel) rfl, eg 497 (by decide +kernel) rfl, ⟨by decide +kernel, by decide +kernel, by decide +kernel⟩, by decide, rfl⟩
theorem caJ2_length_9d52b : ECA mJ2_length_9d52b 1 := ⟨eg 73 (by decide +kernel) rfl, eg 500 (by decide +kernel) rfl, ⟨by decide +kernel, by decide +kernel, by decide +kernel⟩, by decide, rfl⟩
theorem caJ2_getChar_3b067 : ECA mJ2_getChar_3b067 2 := ⟨eg 73 (by decide +kernel) rfl, eg 504 (by decide +kernel) rfl, ⟨by decide +kernel, by decide +kernel, by decide +kernel⟩, by decide, rfl⟩
theorem caX9_begin : ECA mX9_begin 1 := ⟨eg 62 (by decide +kernel) rfl, eg 514 (by decide +kernel) rfl, ⟨by decide +kernel, by decide +kernel, by decide +kernel⟩, by decide, rfl⟩
theorem caX9_kind : ECA mX9_kind 0 := ⟨eg 62 (by decide +kernel) rfl, eg 519 (by decide +kernel) rfl, ⟨by decide +kernel, by decide +kernel, by decide +kernel⟩, by decide, rfl⟩
theorem caX8_names : ECA mX8_names 2 := ⟨eg 60 (by decide +kernel) rfl, eg 523 (by decide +kernel) rfl, ⟨by decide +kernel, by decide +kernel, by decide +kernel⟩, by decide, rfl⟩
theorem caX8_blank : ECA mX8_blank 0 := ⟨eg 60 (by decide +kernel) rfl, eg 527 (by decide +kernel) rfl, ⟨by decide +kernel, by decide +kernel, by decide +kernel⟩, by decide, rfl⟩
theorem caX8_name : ECA mX8_name 1 := ⟨eg 60 (by decide +kernel) rfl, eg 531 (by decide +kernel) rfl, ⟨by decide +kernel, by decide +kernel, by decide +kernel⟩, by decide, rfl⟩
theorem caX8_isLetter : ECA mX8_isLetter 1 := ⟨eg 60 (by decide +kernel) rfl, eg 534 (by decide +kernel) rfl, ⟨by decide +kernel, by decide +kernel, by decide +kernel⟩, by decide, rfl⟩
theorem caX9_push : ECA mX9_push 1 := ⟨eg 62 (by decide +kernel) rfl, eg 538 (by decide +kernel) rfl, ⟨by decide +kernel, by decide +kernel, by decide +kernel⟩, by decide, rfl⟩
theorem caX8_mark : ECA mX8_mark 2 := ⟨eg 60 (by decide +kernel) rfl, eg 542 (by decide +kernel) rfl, ⟨by decide +kernel, by decide +kernel, by decide +kernel⟩, by decide, rfl⟩
theorem caJ0_isEmpty_aae02 : ECA mJ0_isEmpty_aae02 0 := ⟨eg 70 (by decide +kernel) rfl, eg 546 (by decide +kernel) rfl, ⟨by decide +kernel, by decide +kernel, by decide +kernel⟩, by decide, rfl⟩
theorem caX8_atEnd : ECA mX8_atEnd 0 := ⟨eg 60 (by decide +kernel) rfl, eg 550 (by decide +kernel) rfl, ⟨by decide +kernel, by decide +kernel, by decide +kernel⟩, by decide, rfl⟩
theorem caX10_length : ECA mX10_length 0 := ⟨eg 59 (by decide +kernel) rfl, eg 554 (by decide +kernel) rfl, ⟨by decide +kernel, by decide +kernel, by decide +kernel⟩, by decide, rfl⟩
theorem caJ0_indexOf_0f7a4 : ECA mJ0_indexOf_0f7a4 1 := ⟨eg 70 (by decide +kernel) rfl, eg 558 (by decide +kernel) rfl, ⟨by decide +kernel, by decide +kernel, by decide +kernel⟩, by decide, rfl⟩
theorem caJ0_indexOf_7cf53 : ECA mJ0_indexOf_7cf53 2 := ⟨eg 70 (by decide +kernel) rfl, eg 562 (by decide +kernel) rfl, ⟨by decide +kernel, by decide +kernel, by decide +kernel⟩, by decide, rfl⟩
theorem caJ1_indexOf_4cfef : ECA mJ1_indexOf_4cfef 4 := ⟨eg 71 (by decide +kernel) rfl, eg 566 (by decide +kernel) rfl, ⟨by decide +kernel, by decide +kernel, by decide +kernel⟩, by decide, rfl⟩
theorem caJ1_canEncode_9a6ad : ECA mJ1_canEncode_9a6ad 1 := ⟨eg 71 (by decide +kernel) rfl, eg 569 (by decide +kernel) rfl, ⟨by decide +kernel, by decide +kernel, by decide +kernel⟩, by decide, rfl⟩
theorem caJ1_indexOfChar_4cfef : ECA mJ1_indexOfChar_4cfef 4 := ⟨eg 71 (by decide +kernel) rfl, eg 574 (by decide +kernel) rfl, ⟨by decide +kernel, by decide +kernel, by decide +kernel⟩, by decide, rfl⟩
theorem caJ2_indexOf_4cfef : ECA mJ2_indexOf_4cfef 4 := ⟨eg 73 (by decide +kernel) rfl, eg 577 (by decide +kernel) rfl, ⟨by decide +kernel, by decide +kernel, by decide +kernel⟩, by decide, rfl⟩
theorem caJ2_indexOfChar_4cfef : ECA mJ2_indexOfChar_4cfef 4 := ⟨eg 73 (by decide +kernel) rfl, eg 583 (by decide +kernel) rfl, ⟨by decide +kernel, by decide +kernel, by decide +kernel⟩, by decide, rfl⟩
theorem caJ2_checkBoundsBeginEnd_d044e : ECA mJ2_checkBoundsBeginEnd_d044e 3 := ⟨eg 73 (by decide +kernel) rfl, eg 586 (by decide +kernel) rfl, ⟨by decide +kernel, by decide +kernel, by decide +kernel⟩, by decide, rfl⟩
theorem caJ0_checkBoundsBeginEnd_23922 : ECA mJ0_checkBoundsBeginEnd_23922 3 := ⟨eg 70 (by decide +kernel) rfl, eg 589 (by decide +kernel) rfl, ⟨by decide +kernel, by decide +kernel, by decide +kernel⟩, by decide, rfl⟩
theorem caJ3_checkFromToIndex_8c36e : ECA mJ3_checkFromToIndex_8c36e 4 := ⟨eg 72 (by decide +kernel) rfl, eg 592 (by decide +kernel) rfl, ⟨by decide +kernel, by decide +kernel, by decide +kernel⟩, by decide, rfl⟩
theorem caJ2_indexOfCharUnsafe_4cfef : ECA mJ2_indexOfCharUnsafe_4cfef 4 := ⟨eg 73 (by decide +kernel) rfl, eg 595 (by decide +kernel) rfl, ⟨by decide +kernel, by decide +kernel, by decide +kernel⟩, by decide, rfl⟩
theorem caJ2_indexOfSupplementary_4cfef : ECA mJ2_indexOfSupplementary_4cfef 4 := ⟨eg 73 (by decide +kernel) rfl, eg 598 (by decide +kernel) rfl, ⟨by decide +kernel, by decide +kernel, by decide +kernel⟩, by decide, rfl⟩
theorem caJ11_isValidCodePoint_9a6ad : ECA mJ11_isValidCodePoint_9a6ad 1 := ⟨eg 74 (by decide +kernel) rfl, eg 601 (by decide +kernel) rfl, ⟨by decide +kernel, by decide +kernel, by decide +kernel⟩, by decide, rfl⟩
theorem caJ11_highSurrogate_5068e : ECA mJ11_highSurrogate_5068e 1 := ⟨eg 74 (by decide +kernel) rfl, eg 604 (by decide +kernel) rfl, ⟨by decide +kernel, by decide +kernel, by decide +kernel⟩, by decide, rfl⟩
theorem caJ11_lowSurrogate_5068e : ECA mJ11_lowSurrogate_5068e 1 := ⟨eg 74 (by decide +kernel) rfl, eg 608 (by decide +kernel) rfl, ⟨by decide +kernel, by decide +kernel, by decide +kernel⟩, by decide, rfl⟩
theorem caX9_setMark : ECA mX9_setMark 1 := ⟨eg 62 (by decide +kernel) rfl, eg 613 (by decide +kernel) rfl, ⟨by decide +kernel, by decide +kernel, by decide +kernel⟩, by decide, rfl⟩
theorem caX8_list : ECA mX8_list 3 := ⟨eg 60 (by decide +kernel) rfl, eg 617 (by decide +kernel) rfl, ⟨by decide +kernel, by decide +kernel, by decide +kernel⟩, by decide, rfl⟩
theorem caX8_stoppedAt : ECA mX8_stoppedAt 0 := ⟨eg 60 (by decide +kernel) rfl, eg 621 (by decide +kernel) rfl, ⟨by decide +kernel, by decide +kernel, by decide +kernel⟩, by decide, rfl⟩
theorem caX10_clear : ECA mX10_clear 0 := ⟨eg 59 (by decide +kernel) rfl, eg 625 (by decide +kernel) rfl, ⟨by decide +kernel, by decide +kernel, by decide +kernel⟩, by decide, rfl⟩
theorem caX3_hasRoom : ECA mX3_hasRoom 0 := ⟨eg 61 (by decide +kernel) rfl, eg 697 (by decide +kernel) rfl, ⟨by decide +kernel, by decide +kernel, by decide +kernel⟩, by decide, rfl⟩
theorem caX3_keepSpare : ECA mX3_keepSpare 0 := ⟨eg 61 (by decide +kernel) rfl, eg 717 (by decide +kernel) rfl, ⟨by decide +kernel, by decide +kernel, by decide +kernel⟩, by decide, rfl⟩
theorem caX11_accept : ECA mX11_accept 0 := ⟨eg 58 (by decide +kernel) rfl, eg 725 (by decide +kernel) rfl, ⟨by decide +kernel, by decide +kernel, by decide +kernel⟩, by decide, rfl⟩
theorem caX3_firstWrong : ECA mX3_firstWrong 0 := ⟨eg 61 (by decide +kernel) rfl, eg 729 (by decide +kernel) rfl, ⟨by decide +kernel, by decide +kernel, by decide +kernel⟩, by decide, rfl⟩
theorem caX3_isWrong : ECA mX3_isWrong 1 := ⟨eg 61 (by decide +kernel) rfl, eg 733 (by decide +kernel) rfl, ⟨by decide +kernel, by decide +kernel, by decide +kernel⟩, by decide, rfl⟩
theorem caJx29ce0_ordinal_8abf5 : ECA mJx29ce0_ordinal_8abf5 0 := ⟨eg 63 (by decide +kernel) rfl, eg 742 (by decide +kernel) rfl, ⟨by decide +kernel, by decide +kernel, by decide +kernel⟩, by decide, rfl⟩
theorem caX3_repeats : ECA mX3_repeats 2 := ⟨eg 61 (by decide +kernel) rfl, eg 746 (by decide +kernel) rfl, ⟨by decide +kernel, by decide +kernel, by decide +kernel⟩, by decide, rfl⟩
theorem caX9_beginsAs : ECA mX9_beginsAs 2 := ⟨eg 62 (by decide +kernel) rfl, eg 750 (by decide +kernel) rfl, ⟨by decide +kernel, by decide +kernel, by decide +kernel⟩, by decide, rfl⟩
theorem caX9_word : ECA mX9_word 1 := ⟨eg 62 (by decide +kernel) rfl, eg 754 (by decide +kernel) rfl, ⟨by decide +kernel, by decide +kernel, by decide +kernel⟩, by decide, rfl⟩
theorem caX9_allDifferFrom : ECA mX9_allDifferFrom 1 := ⟨eg 62 (by decide +kernel) rfl, eg 758 (by decide +kernel) rfl, ⟨by decide +kernel, by decide +kernel, by decide +kernel⟩, by decide, rfl⟩
theorem caX9_find : ECA mX9_find 2 := ⟨eg 62 (by decide +kernel) rfl, eg 762 (by decide +kernel) rfl, ⟨by decide +kernel, by decide +kernel, by decide +kernel⟩, by decide, rfl⟩
theorem caX3_howMany : ECA mX3_howMany 2 := ⟨eg 61 (by decide +kernel) rfl, eg 767 (by decide +kernel) rfl, ⟨by decide +kernel, by decide +kernel, by decide +kernel⟩, by decide, rfl⟩
theorem caX3_isAttribute : ECA mX3_isAttribute 1 := ⟨eg 61 (by decide +kernel) rfl, eg 772 (by decide +kernel) rfl, ⟨by decide +kernel, by decide +kernel, by decide +kernel⟩, by decide, rfl⟩
theorem caX3_isDoer : ECA mX3_isDoer 1 := ⟨eg 61 (by decide +kernel) rfl, eg 779 (by decide +kernel) rfl, ⟨by decide +kernel, by decide +kernel, by decide +kernel⟩, by decide, rfl⟩
theorem caX3_isType : ECA mX3_isType 1 := ⟨eg 61 (by decide +kernel) rfl, eg 783 (by decide +kernel) rfl, ⟨by decide +kernel, by decide +kernel, by decide +kernel⟩, by decide, rfl⟩
theorem caX3_numberOf : ECA mX3_numberOf 2 := ⟨eg 61 (by decide +kernel) rfl, eg 787 (by decide +kernel) rfl, ⟨by decide +kernel, by decide +kernel, by decide +kernel⟩, by decide, rfl⟩
theorem caX3_declaresPermissions : ECA mX3_declaresPermissions 2 := ⟨eg 61 (by decide +kernel) rfl, eg 792 (by decide +kernel) rfl, ⟨by decide +kernel, by decide +kernel, by decide +kernel⟩, by decide, rfl⟩
theorem caX9_size : ECA mX9_size 0 := ⟨eg 62 (by decide +kernel) rfl, eg 796 (by decide +kernel) rfl, ⟨by decide +kernel, by decide +kernel, by decide +kernel⟩, by decide, rfl⟩
theorem caX3_declaresPermission : ECA mX3_declaresPermission 2 := ⟨eg 61 (by decide +kernel) rfl, eg 800 (by decide +kernel) rfl, ⟨by decide +kernel, by decide +kernel, by decide +kernel⟩, by decide, rfl⟩
theorem caX2_compose : ECA mX2_compose 2 := ⟨eg 81 (by decide +kernel) rfl, eg 804 (by decide +kernel) rfl, ⟨by decide +kernel, by decide +kernel, by decide +kernel⟩, by decide, rfl⟩
theorem caX7_clear : ECA mX7_clear 0 := ⟨eg 68 (by decide +kernel) rfl, eg 808 (by decide +kernel) rfl, ⟨by decide +kernel, by decide +kernel, by decide +kernel⟩, by decide, rfl⟩
theorem caJ7_fill_53178 : ECA mJ7_fill_53178 2 := ⟨eg 82 (by decide +kernel) rfl, eg 811 (by decide +kernel) rfl, ⟨by decide +kernel, by decide +kernel, by decide +kernel⟩, by decide, rfl⟩
theorem caX3_row : ECA mX3_row 1 := ⟨eg 61 (by decide +kernel) rfl, eg 816 (by decide +kernel) rfl, ⟨by decide +kernel, by decide +kernel, by decide +kernel⟩, by decide, rfl⟩
theorem caX2_declare : ECA mX2_declare 2 := ⟨eg 81 (by decide +kernel) rfl, eg 819 (by decide +kernel) rfl, ⟨by decide +kernel, by decide +kernel, by decide +kernel⟩, by decide, rfl⟩
theorem caX7_declareType : ECA mX7_declareType 0 := ⟨eg 68 (by decide +kernel) rfl, eg 825 (by decide +kernel) rfl, ⟨by decide +kernel, by decide +kernel, by decide +kernel⟩, by decide, rfl⟩
theorem caX7_declareClass : ECA mX7_declareClass 1 := ⟨eg 68 (by decide +kernel) rfl, eg 831 (by decide +kernel) rfl, ⟨by decide +kernel, by decide +kernel, by decide +kernel⟩, by decide, rfl⟩
theorem caX2_apply : ECA mX2_apply 3 := ⟨eg 81 (by decide +kernel) rfl, eg 834 (by decide +kernel) rfl, ⟨by decide +kernel, by decide +kernel, by decide +kernel⟩, by decide, rfl⟩
theorem caX2_allow : ECA mX2_allow 3 := ⟨eg 81 (by decide +kernel) rfl, eg 839 (by decide +kernel) rfl, ⟨by decide +kernel, by decide +kernel, by decide +kernel⟩, by decide, rfl⟩
theorem caX3_typesNamed : ECA mX3_typesNamed 1 := ⟨eg 61 (by decide +kernel) rfl, eg 844 (by decide +kernel) rfl, ⟨by decide +kernel, by decide +kernel, by decide +kernel⟩, by decide, rfl⟩
theorem caX3_maskOf : ECA mX3_maskOf 2 := ⟨eg 61 (by decide +kernel) rfl, eg 849 (by decide +kernel) rfl, ⟨by decide +kernel, by decide +kernel, by decide +kernel⟩, by decide, rfl⟩
theorem caX2_othersFor : ECA mX2_othersFor 3 := ⟨eg 81 (by decide +kernel) rfl, eg 854 (by decide +kernel) rfl, ⟨by decide +kernel, by decide +kernel, by decide +kernel⟩, by decide, rfl⟩
theorem caX7_addAllowed : ECA mX7_addAllowed 4 := ⟨eg 68 (by decide +kernel) rfl, eg 859 (by decide +kernel) rfl, ⟨by decide +kernel, by decide +kernel, by decide +kernel⟩, by decide, rfl⟩
theorem caX7_setProduct : ECA mX7_setProduct 4 := ⟨eg 68 (by decide +kernel) rfl, eg 863 (by decide +kernel) rfl, ⟨by decide +kernel, by decide +kernel, by decide +kernel⟩, by decide, rfl⟩
theorem caX9_mark : ECA mX9_mark 0 := ⟨eg 62 (by decide +kernel) rfl, eg 867 (by decide +kernel) rfl, ⟨by decide +kernel, by decide +kernel, by decide +kernel⟩, by decide, rfl⟩
theorem caX7_setRank : ECA mX7_setRank 2 := ⟨eg 68 (by decide +kernel) rfl, eg 871 (by decide +kernel) rfl, ⟨by decide +kernel, by decide +kernel, by decide +kernel⟩, by decide, rfl⟩
theorem caX2_widen : ECA mX2_widen 4 := ⟨eg 81 (by decide +kernel) rfl, eg 874 (by decide +kernel) rfl, ⟨by decide +kernel, by decide +kernel, by decide +kernel⟩, by decide, rfl⟩
theorem caX7_addToMask : ECA mX7_addToMask 3 := ⟨eg 68 (by decide +kernel) rfl, eg 878 (by decide +kernel) rfl, ⟨by decide +kernel, by decide +kernel, by decide +kernel⟩, by decide, rfl⟩
theorem caX2_firstAgainst : ECA mX2_firstAgainst 2 := ⟨eg 81 (by decide +kernel) rfl, eg 881 (by decide +kernel) rfl, ⟨by decide +kernel, by decide +kernel, by decide +kernel⟩, by decide, rfl⟩
theorem caX2_isAgainst : ECA mX2_isAgainst 3 := ⟨eg 81 (by decide +kernel) rfl, eg 886 (by decide +kernel) rfl, ⟨by decide +kernel, by decide +kernel, by decide +kernel⟩, by decide, rfl⟩
theorem caX7_allowsSome : ECA mX7_allowsSome 4 := ⟨eg 68 (by decide +kernel) rfl, eg 890 (by decide +kernel) rfl, ⟨by decide +kernel, by decide +kernel, by decide +kernel⟩, by decide, rfl⟩
theorem caX11_putInForce : ECA mX11_putInForce 0 := ⟨eg 58 (by decide +kernel) rfl, eg 895 (by decide +kernel) rfl, ⟨by decide +kernel, by decide +kernel, by decide +kernel⟩, by decide, rfl⟩
theorem caX6_forget : ECA mX6_forget 0 := ⟨eg 65 (by decide +kernel) rfl, eg 899 (by decide +kernel) rfl, ⟨by decide +kernel, by decide +kernel, by decide +kernel⟩, by decide, rfl⟩
theorem caX11_may : ECA mX11_may 3 := ⟨eg 58 (by decide +kernel) rfl, eg 907 (by decide +kernel) rfl, ⟨by decide +kernel, by decide +kernel, by decide +kernel⟩, by decide, rfl⟩
theorem caX6_recall : ECA mX6_recall 1 := ⟨eg 65 (by decide +kernel) rfl, eg 929 (by decide +kernel) rfl, ⟨by decide +kernel, by decide +kernel, by decide +kernel⟩, by decide, rfl⟩
theorem caX6_drop : ECA mX6_drop 1 := ⟨eg 65 (by decide +kernel) rfl, eg 933 (by decide +kernel) rfl, ⟨by decide +kernel, by decide +kernel, by decide +kernel⟩, by decide, rfl⟩
theorem caX6_append : ECA mX6_append 2 := ⟨eg 65 (by decide +kernel) rfl, eg 937 (by decide +kernel) rfl, ⟨by decide +kernel, by decide +kernel, by decide +kernel⟩, by decide, rfl⟩
theorem caX6_keep : ECA mX6_keep 2 := ⟨eg 65 (by decide +kernel) rfl, eg 942 (by decide +kernel) rfl, ⟨by decide +kernel, by decide +kernel, by decide +kernel⟩, by decide, rfl⟩
theorem caX11_read : ECA mX11_read 0 := ⟨eg 58 (by decide +kernel) rfl, eg 949 (by decide +kernel) rfl, ⟨by decide +kernel, by decide +kernel, by decide +kernel⟩, by decide, rfl⟩
theorem caX4_decode : ECA mX4_decode 2 := ⟨eg 84 (by decide +kernel) rfl, eg 952 (by decide +kernel) rfl, ⟨by decide +kernel, by decide +kernel, by decide +kernel⟩, by decide, rfl⟩
theorem caX1_rewind : ECA mX1_rewind 0 := ⟨eg 67 (by decide +kernel) rfl, eg 957 (by decide +kernel) rfl, ⟨by decide +kernel, by decide +kernel, by decide +kernel⟩, by decide, rfl⟩
theorem caX1_take : ECA mX1_take 2 := ⟨eg 67 (by decide +kernel) rfl, eg 961 (by decide +kernel) rfl, ⟨by decide +kernel, by decide +kernel, by decide +kernel⟩, by decide, rfl⟩
theorem caX4_decodeClass : ECA mX4_decodeClass 3 := ⟨eg 84 (by decide +kernel) rfl, eg 968 (by decide +kernel) rfl, ⟨by decide +kernel, by decide +kernel, by decide +kernel⟩, by decide, rfl⟩
theorem caX7_setAllowed : ECA mX7_setAllowed 4 := ⟨eg 68 (by decide +kernel) rfl, eg 972 (by decide +kernel) rfl, ⟨by decide +kernel, by decide +kernel, by decide +kernel⟩, by decide, rfl⟩
theorem caX1_isTakenWhole : ECA mX1_isTakenWhole 0 := ⟨eg 67 (by decide +kernel) rfl, eg 978 (by decide +kernel) rfl, ⟨by decide +kernel, by decide +kernel, by decide +kernel⟩, by decide, rfl⟩
theorem caX12_init : ECA mX12_init 1 := ⟨eg 69 (by decide +kernel) rfl, eg 985 (by decide +kernel) rfl, ⟨by decide +kernel, by decide +kernel, by decide +kernel⟩, by decide, rfl⟩
theorem caX12_thrown : ECA mX12_thrown 0 := ⟨eg 69 (by decide +kernel) rfl, eg 1089 (by decide +kernel) rfl, ⟨by decide +kernel, by decide +kernel, by decide +kernel⟩, by decide, rfl⟩
theorem caX12_write : ECA mX12_write 1 := ⟨eg 69 (by decide +kernel) rfl, eg 1093 (by decide +kernel) rfl, ⟨by decide +kernel, by decide +kernel, by decide +kernel⟩, by decide, rfl⟩
theorem caX12_add : ECA mX12_add 0 := ⟨eg 69 (by decide +kernel) rfl, eg 1098 (by decide +kernel) rfl, ⟨by decide +kernel, by decide +kernel, by decide +kernel⟩, by decide, rfl⟩
theorem caX12_readStatement : ECA mX12_readStatement 0 := ⟨eg 69 (by decide +kernel) rfl, eg 1102 (by decide +kernel) rfl, ⟨by decide +kernel, by decide +kernel, by decide +kernel⟩, by decide, rfl⟩
theorem caX12_readKind : ECA mX12_readKind 0 := ⟨eg 69 (by decide +kernel) rfl, eg 1106 (by decide +kernel) rfl, ⟨by decide +kernel, by decide +kernel, by decide +kernel⟩, by decide, rfl⟩
theorem caX12_keyword : ECA mX12_keyword 1 := ⟨eg 69 (by decide +kernel) rfl, eg 1109 (by decide +kernel) rfl, ⟨by decide +kernel, by decide +kernel, by decide +kernel⟩, by decide, rfl⟩
theorem caX12_word : ECA mX12_word 5 := ⟨eg 69 (by decide +kernel) rfl, eg 1112 (by decide +kernel) rfl, ⟨by decide +kernel, by decide +kernel, by decide +kernel⟩, by decide, rfl⟩
theorem caX12_isLetter : ECA mX12_isLetter 0 := ⟨eg 69 (by decide +kernel) rfl, eg 1116 (by decide +kernel) rfl, ⟨by decide +kernel, by decide +kernel, by decide +kernel⟩, by decide, rfl⟩
theorem caX12_here : ECA mX12_here 0 := ⟨eg 69 (by decide +kernel) rfl, eg 1120 (by decide +kernel) rfl, ⟨by decide +kernel, by decide +kernel, by decide +kernel⟩, by decide, rfl⟩
theorem caX12_readNames : ECA mX12_readNames 3 := ⟨eg 69 (by decide +kernel) rfl, eg 1124 (by decide +kernel) rfl, ⟨by decide +kernel, by decide +kernel, by decide +kernel⟩, by decide, rfl⟩
theorem caX12_readName : ECA mX12_readName 0 := ⟨eg 69 (by decide +kernel) rfl, eg 1128 (by decide +kernel) rfl, ⟨by decide +kernel, by decide +kernel, by decide +kernel⟩, by decide, rfl⟩
theorem caX12_readExtra : ECA mX12_readExtra 2 := ⟨eg 69 (by decide +kernel) rfl, eg 1132 (by decide +kernel) rfl, ⟨by decide +kernel, by decide +kernel, by decide +kernel⟩, by decide, rfl⟩
theorem caX12_position : ECA mX12_position 0 := ⟨eg 69 (by decide +kernel) rfl, eg 1136 (by decide +kernel) rfl, ⟨by decide +kernel, by decide +kernel, by decide +kernel⟩, by decide, rfl⟩
theorem caX12_cut : ECA mX12_cut 1 := ⟨eg 69 (by decide +kernel) rfl, eg 1140 (by decide +kernel) rfl, ⟨by decide +kernel, by decide +kernel, by decide +kernel⟩, by decide, rfl⟩
theorem caX12_accept : ECA mX12_accept 0 := ⟨eg 69 (by decide +kernel) rfl, eg 1144 (by decide +kernel) rfl, ⟨by decide +kernel, by decide +kernel, by decide +kernel⟩, by decide, rfl⟩
theorem caX12_firstWrong : ECA mX12_firstWrong 0 := ⟨eg 69 (by decide +kernel) rfl, eg 1148 (by decide +kernel) rfl, ⟨by decide +kernel, by decide +kernel, by decide +kernel⟩, by decide, rfl⟩
theorem caX12_isWrong : ECA mX12_isWrong 1 := ⟨eg 69 (by decide +kernel) rfl, eg 1152 (by decide +kernel) rfl, ⟨by decide +kernel, by decide +kernel, by decide +kernel⟩, by decide, rfl⟩
theorem caX12_nameAt : ECA mX12_nameAt 2 := ⟨eg 69 (by decide +kernel) rfl, eg 1156 (by decide +kernel) rfl, ⟨by decide +kernel, by decide +kernel, by decide +kernel⟩, by decide, rfl⟩
theorem caX12_before : ECA mX12_before 3 := ⟨eg 69 (by decide +kernel) rfl, eg 1160 (by decide +kernel) rfl, ⟨by decide +kernel, by decide +kernel, by decide +kernel⟩, by decide, rfl⟩
theorem caX12_allDifferent : ECA mX12_allDifferent 1 := ⟨eg 69 (by decide +kernel) rfl, eg 1164 (by decide +kernel) rfl, ⟨by decide +kernel, by decide +kernel, by decide +kernel⟩, by decide, rfl⟩
theorem caX12_isAttribute : ECA mX12_isAttribute 1 := ⟨eg 69 (by decide +kernel) rfl, eg 1168 (by decide +kernel) rfl, ⟨by decide +kernel, by decide +kernel, by decide +kernel⟩, by decide, rfl⟩
theorem caX12_twice : ECA mX12_twice 1 := ⟨eg 69 (by decide +kernel) rfl, eg 1172 (by decide +kernel) rfl, ⟨by decide +kernel, by decide +kernel, by decide +kernel⟩, by decide, rfl⟩
theorem caX12_isType : ECA mX12_isType 1 := ⟨eg 69 (by decide +kernel) rfl, eg 1176 (by decide +kernel) rfl, ⟨by decide +kernel, by decide +kernel, by decide +kernel⟩, by decide, rfl⟩
theorem caX12_isClass : ECA mX12_isClass 1 := ⟨eg 69 (by decide +kernel) rfl, eg 1180 (by decide +kernel) rfl, ⟨by decide +kernel, by decide +kernel, by decide +kernel⟩, by decide, rfl⟩
theorem caX12_isSelf : ECA mX12_isSelf 1 := ⟨eg 69 (by decide +kernel) rfl, eg 1183 (by decide +kernel) rfl, ⟨by decide +kernel, by decide +kernel, by decide +kernel⟩, by decide, rfl⟩
theorem caX12_arePermissions : ECA mX12_arePermissions 3 := ⟨eg 69 (by decide +kernel) rfl, eg 1187 (by decide +kernel) rfl, ⟨by decide +kernel, by decide +kernel, by decide +kernel⟩, by decide, rfl⟩
theorem caX12_isPermission : ECA mX12_isPermission 2 := ⟨eg 69 (by decide +kernel) rfl, eg 1191 (by decide +kernel) rfl, ⟨by decide +kernel, by decide +kernel, by decide +kernel⟩, by decide, rfl⟩
theorem caX12_firstAgainst : ECA mX12_firstAgainst 0 := ⟨eg 69 (by decide +kernel) rfl, eg 1195 (by decide +kernel) rfl, ⟨by decide +kernel, by decide +kernel, by decide +kernel⟩, by decide, rfl⟩
theorem caX12_shared : ECA mX12_shared 2 := ⟨eg 69 (by decide +kernel) rfl, eg 1199 (by decide +kernel) rfl, ⟨by decide +kernel, by decide +kernel, by decide +kernel⟩, by decide, rfl⟩
theorem caX12_isAbout : ECA mX12_isAbout 3 := ⟨eg 69 (by decide +kernel) rfl, eg 1203 (by decide +kernel) rfl, ⟨by decide +kernel, by decide +kernel, by decide +kernel⟩, by decide, rfl⟩
theorem caX12_typeStatement : ECA mX12_typeStatement 1 := ⟨eg 69 (by decide +kernel) rfl, eg 1207 (by decide +kernel) rfl, ⟨by decide +kernel, by decide +kernel, by decide +kernel⟩, by decide, rfl⟩
theorem caX12_standsFor : ECA mX12_standsFor 2 := ⟨eg 69 (by decide +kernel) rfl, eg 1211 (by decide +kernel) rfl, ⟨by decide +kernel, by decide +kernel, by decide +kernel⟩, by decide, rfl⟩
theorem caX12_begin : ECA mX12_begin 0 := ⟨eg 69 (by decide +kernel) rfl, eg 1215 (by decide +kernel) rfl, ⟨by decide +kernel, by decide +kernel, by decide +kernel⟩, by decide, rfl⟩
theorem caX12_put : ECA mX12_put 1 := ⟨eg 69 (by decide +kernel) rfl, eg 1219 (by decide +kernel) rfl, ⟨by decide +kernel, by decide +kernel, by decide +kernel⟩, by decide, rfl⟩
theorem caX12_classNumber : ECA mX12_classNumber 1 := ⟨eg 69 (by decide +kernel) rfl, eg 1223 (by decide +kernel) rfl, ⟨by decide +kernel, by decide +kernel, by decide +kernel⟩, by decide, rfl⟩
theorem caX12_maskOf : ECA mX12_maskOf 3 := ⟨eg 69 (by decide +kernel) rfl, eg 1227 (by decide +kernel) rfl, ⟨by decide +kernel, by decide +kernel, by decide +kernel⟩, by decide, rfl⟩
theorem caX12_typeNumber : ECA mX12_typeNumber 1 := ⟨eg 69 (by decide +kernel) rfl, eg 1231 (by decide +kernel) rfl, ⟨by decide +kernel, by decide +kernel, by decide +kernel⟩, by decide, rfl⟩
theorem caX12_fault : ECA mX12_fault 0 := ⟨eg 69 (by decide +kernel) rfl, eg 1235 (by decide +kernel) rfl, ⟨by decide +kernel, by decide +kernel, by decide +kernel⟩, by decide, rfl⟩
theorem caX12_may : ECA mX12_may 3 := ⟨eg 69 (by decide +kernel) rfl, eg 1239 (by decide +kernel) rfl, ⟨by decide +kernel, by decide +kernel, by decide +kernel⟩, by decide, rfl⟩
theorem caX12_isThere : ECA mX12_isThere 3 := ⟨eg 69 (by decide +kernel) rfl, eg 1243 (by decide +kernel) rfl, ⟨by decide +kernel, by decide +kernel, by decide +kernel⟩, by decide, rfl⟩
theorem caX12_worked : ECA mX12_worked 3 := ⟨eg 69 (by decide +kernel) rfl, eg 1247 (by decide +kernel) rfl, ⟨by decide +kernel, by decide +kernel, by decide +kernel⟩, by decide, rfl⟩
theorem caX12_made : ECA mX12_made 3 := ⟨eg 69 (by decide +kernel) rfl, eg 1251 (by decide +kernel) rfl, ⟨by decide +kernel, by decide +kernel, by decide +kernel⟩, by decide, rfl⟩
theorem caX12_flow : ECA mX12_flow 2 := ⟨eg 69 (by decide +kernel) rfl, eg 1255 (by decide +kernel) rfl, ⟨by decide +kernel, by decide +kernel, by decide +kernel⟩, by decide, rfl⟩
theorem caX12_flows : ECA mX12_flows 2 := ⟨eg 69 (by decide +kernel) rfl, eg 1259 (by decide +kernel) rfl, ⟨by decide +kernel, by decide +kernel, by decide +kernel⟩, by decide, rfl⟩
theorem caX12_count : ECA mX12_count 1 := ⟨eg 69 (by decide +kernel) rfl, eg 1263 (by decide +kernel) rfl, ⟨by decide +kernel, by decide +kernel, by decide +kernel⟩, by decide, rfl⟩
theorem caX12_image : ECA mX12_image 0 := ⟨eg 69 (by decide +kernel) rfl, eg 1267 (by decide +kernel) rfl, ⟨by decide +kernel, by decide +kernel, by decide +kernel⟩, by decide, rfl⟩
theorem caX12_say : ECA mX12_say 1 := ⟨eg 69 (by decide +kernel) rfl, eg 1271 (by decide +kernel) rfl, ⟨by decide +kernel, by decide +kernel, by decide +kernel⟩, by decide, rfl⟩
theorem caX12_imageAt : ECA mX12_imageAt 1 := ⟨eg 69 (by decide +kernel) rfl, eg 1275 (by decide +kernel) rfl, ⟨by decide +kernel, by decide +kernel, by decide +kernel⟩, by decide, rfl⟩
theorem caX12_feed : ECA mX12_feed 2 := ⟨eg 69 (by decide +kernel) rfl, eg 1279 (by decide +kernel) rfl, ⟨by decide +kernel, by decide +kernel, by decide +kernel⟩, by decide, rfl⟩
theorem caX12_read : ECA mX12_read 0 := ⟨eg 69 (by decide +kernel) rfl, eg 1283 (by decide +kernel) rfl, ⟨by decide +kernel, by decide +kernel, by decide +kernel⟩, by decide, rfl⟩
theorem caX12_wellFormed : ECA mX12_wellFormed 0 := ⟨eg 69 (by decide +kernel) rfl, eg 1287 (by decide +kernel) rfl, ⟨by decide +kernel, by decide +kernel, by decide +kernel⟩, by decide, rfl⟩
theorem caX12_in : ECA mX12_in 3 := ⟨eg 69 (by decide +kernel) rfl, eg 1290 (by decide +kernel) rfl, ⟨by decide +kernel, by decide +kernel, by decide +kernel⟩, by decide, rfl⟩
theorem ob_X1_3 : Cond.methodLink RX1 3 objectInit ∈ egood := eg 188 (by decide +kernel) rfl
theorem pf_X1_9 : EPF RX1 9 0 0 (.array .int) true := ⟨RX1, TX1, 4, tyX1, rfl, innX1, by decide, eg 189 (by decide +kernel) rfl, tyX1_ok, nmX1, rfl, rfl, fun _ => rfl⟩
theorem pf_X1_15 : EPF RX1 15 0 1 (.int) false := ⟨RX1, TX1, 4, tyX1, rfl, innX1, by decide, eg 190 (by decide +kernel) rfl, tyX1_ok, nmX1, rfl, rfl, fun _ => rfl⟩
theorem pf_X1_19 : EPF RX1 19 0 2 (.int) false := ⟨RX1, TX1, 4, tyX1, rfl, innX1, by decide, eg 191 (by decide +kernel) rfl, tyX1_ok, nmX1, rfl, rfl, fun _ => rfl⟩
theorem pf_X1_22 : EPF RX1 22 0 3 (.boolean) false := ⟨RX1, TX1, 4, tyX1, rfl, innX1, by decide, eg 192 (by decide +kernel) rfl, tyX1_ok, nmX1, rfl, rfl, fun _ => rfl⟩
theorem gf_X1_15 : EGF RX1 15 0 1 := ⟨RX1, TX1, 4, rfl, innX1, by decide, eg 190 (by decide +kernel) rfl⟩
theorem gf_X1_9 : EGF RX1 9 0 0 := ⟨RX1, TX1, 4, rfl, innX1, by decide, eg 189 (by decide +kernel) rfl⟩
theorem gf_X1_19 : EGF RX1 19 0 2 := ⟨RX1, TX1, 4, rfl, innX1, by decide, eg 191 (by decide +kernel) rfl⟩
theorem cv_X1_26 : ECV RX1 26 mX1_byteAt 1 := ⟨eg 962 (by decide +kernel) rfl, eg 416 (by decide +kernel) rfl, eg 417 (by decide +kernel) rfl, caX1_byteAt⟩
theorem gf_X1_22 : EGF RX1 22 0 3 := ⟨RX1, TX1, 4, rfl, innX1, by decide, eg 192 (by decide +kernel) rfl⟩
theorem cv_X2_9 : ECV RX2 9 mX7_clear 0 := ⟨eg 805 (by decide +kernel) rfl, eg 806 (by decide +kernel) rfl, eg 807 (by decide +kernel) rfl, caX7_clear⟩
theorem cv_X2_14 : ECV RX2 14 mX3_size 0 := ⟨eg 812 (by decide +kernel) rfl, eg 376 (by decide +kernel) rfl, eg 377 (by decide +kernel) rfl, caX3_size⟩
theorem cv_X2_20 : ECV RX2 20 mX3_row 1 := ⟨eg 813 (by decide +kernel) rfl, eg 814 (by decide +kernel) rfl, eg 815 (by decide +kernel) rfl, caX3_row⟩
theorem cs_X2_24 : ECS RX2 24 mX2_declare 2 := ⟨eg 817 (by decide +kernel) rfl, eg 818 (by decide +kernel) rfl, caX2_declare⟩
theorem cs_X2_30 : ECS RX2 30 mX2_apply 3 := ⟨eg 832 (by decide +kernel) rfl, eg 833 (by decide +kernel) rfl, caX2_apply⟩
theorem cv_X2_34 : ECV RX2 34 mX9_kind 0 := ⟨eg 820 (by decide +kernel) rfl, eg 517 (by decide +kernel) rfl, eg 518 (by decide +kernel) rfl, caX9_kind⟩
theorem gz_X2_40 : Cond.fieldLink RX2 40 "PolicyDesk$Kind" "TYPE" "LPolicyDesk$Kind;" ∈ egood := eg 821 (by decide +kernel) rfl
theorem cv_X2_46 : ECV RX2 46 mX7_declareType 0 := ⟨eg 822 (by decide +kernel) rfl, eg 823 (by decide +kernel) rfl, eg 824 (by decide +kernel) rfl, caX7_declareType⟩
theorem gz_X2_49 : Cond.fieldLink RX2 49 "PolicyDesk$Kind" "CLASS" "LPolicyDesk$Kind;" ∈ egood := eg 826 (by decide +kernel) rfl
theorem cv_X2_52 : ECV RX2 52 mX9_size 0 := ⟨eg 827 (by decide +kernel) rfl, eg 794 (by decide +kernel) rfl, eg 795 (by decide +kernel) rfl, caX9_size⟩
theorem cv_X2_53 : ECV RX2 53 mX7_declareClass 1 := ⟨eg 828 (by decide +kernel) rfl, eg 829 (by decide +kernel) rfl, eg 830 (by decide +kernel) rfl, caX7_declareClass⟩
theorem gz_X2_57 : Cond.fieldLink RX2 57 "PolicyDesk$1" "$SwitchMap$PolicyDesk$Kind" "[I" ∈ egood := eg 835 (by decide +kernel) rfl
theorem cs_X2_66 : ECS RX2 66 mX2_allow 3 := ⟨eg 837 (by decide +kernel) rfl, eg 838 (by decide +kernel) rfl, caX2_allow⟩
theorem cv_X2_69 : ECV RX2 69 mX9_word 1 := ⟨eg 840 (by decide +kernel) rfl, eg 752 (by decide +kernel) rfl, eg 753 (by decide +kernel) rfl, caX9_word⟩
theorem cv_X2_73 : ECV RX2 73 mX3_numberOf 2 := ⟨eg 845 (by decide +kernel) rfl, eg 785 (by decide +kernel) rfl, eg 786 (by decide +kernel) rfl, caX3_numberOf⟩
theorem cv_X2_77 : ECV RX2 77 mX7_setProduct 4 := ⟨eg 860 (by decide +kernel) rfl, eg 861 (by decide +kernel) rfl, eg 862 (by decide +kernel) rfl, caX7_setProduct⟩
theorem cv_X2_81 : ECV RX2 81 mX9_mark 0 := ⟨eg 864 (by decide +kernel) rfl, eg 865 (by decide +kernel) rfl, eg 866 (by decide +kernel) rfl, caX9_mark⟩
theorem cv_X2_84 : ECV RX2 84 mX7_setRank 2 := ⟨eg 868 (by decide +kernel) rfl, eg 869 (by decide +kernel) rfl, eg 870 (by decide +kernel) rfl, caX7_setRank⟩
theorem cs_X2_88 : ECS RX2 88 mX2_widen 4 := ⟨eg 872 (by decide +kernel) rfl, eg 873 (by decide +kernel) rfl, caX2_widen⟩
theorem cv_X2_92 : ECV RX2 92 mX3_maskOf 2 := ⟨eg 846 (by decide +kernel) rfl, eg 847 (by decide +kernel) rfl, eg 848 (by decide +kernel) rfl, caX3_maskOf⟩
theorem cv_X2_96 : ECV RX2 96 mX7_addToMask 3 := ⟨eg 875 (by decide +kernel) rfl, eg 876 (by decide +kernel) rfl, eg 877 (by decide +kernel) rfl, caX7_addToMask⟩
theorem cv_X2_100 : ECV RX2 100 mX3_typesNamed 1 := ⟨eg 841 (by decide +kernel) rfl, eg 842 (by decide +kernel) rfl, eg 843 (by decide +kernel) rfl, caX3_typesNamed⟩
theorem cv_X2_103 : ECV RX2 103 mX7_types 0 := ⟨eg 850 (by decide +kernel) rfl, eg 356 (by decide +kernel) rfl, eg 357 (by decide +kernel) rfl, caX7_types⟩
theorem cs_X2_106 : ECSN RX2 106 mX11_hasBit 2 := ⟨⟨"PolicyDesk", List.mem_of_getElem? (i := 851) (by decide +kernel)⟩, eg 320 (by decide +kernel) rfl, caX11_hasBit⟩
theorem cs_X2_110 : ECS RX2 110 mX2_othersFor 3 := ⟨eg 852 (by decide +kernel) rfl, eg 853 (by decide +kernel) rfl, caX2_othersFor⟩
theorem cv_X2_114 : ECV RX2 114 mX7_addAllowed 4 := ⟨eg 856 (by decide +kernel) rfl, eg 857 (by decide +kernel) rfl, eg 858 (by decide +kernel) rfl, caX7_addAllowed⟩
theorem gz_X2_117 : Cond.fieldLink RX2 117 "PolicyDesk$Kind" "NEVER" "LPolicyDesk$Kind;" ∈ egood := eg 882 (by decide +kernel) rfl
theorem cs_X2_120 : ECS RX2 120 mX2_isAgainst 3 := ⟨eg 884 (by decide +kernel) rfl, eg 885 (by decide +kernel) rfl, caX2_isAgainst⟩
theorem cv_X2_124 : ECV RX2 124 mX7_allowsSome 4 := ⟨eg 887 (by decide +kernel) rfl, eg 888 (by decide +kernel) rfl, eg 889 (by decide +kernel) rfl, caX7_allowsSome⟩
theorem lc_X2_128 : Cond.constant RX2 128 (628102) ∈ egood := eg 855 (by decide +kernel) rfl
theorem ob_X3_3 : Cond.methodLink RX3 3 objectInit ∈ egood := eg 125 (by decide +kernel) rfl
theorem nq_X3_9 : Cond.classLink RX3 9 "PolicyDesk$Statement" ∈ egood := eg 126 (by decide +kernel) rfl
theorem pf_X3_11 : EPF RX3 11 1 0 (.array (.object "PolicyDesk$Statement")) true := ⟨RX3, TX3, 2, tyX3, rfl, innX3, by decide, eg 148 (by decide +kernel) rfl, tyX3_ok, nmX3, rfl, rfl, fun _ => rfl⟩
theorem pf_X3_17 : EPF RX3 17 1 1 (.int) false := ⟨RX3, TX3, 2, tyX3, rfl, innX3, by decide, eg 149 (by decide +kernel) rfl, tyX3_ok, nmX3, rfl, rfl, fun _ => rfl⟩
theorem gf_X3_11 : EGF RX3 11 1 0 := ⟨RX3, TX3, 2, rfl, innX3, by decide, eg 148 (by decide +kernel) rfl⟩
theorem nw_X3_9 : ENW RX3 9 5 4 [.null, .null, .int 0, .int 0] := ⟨RX9, TX9, tyX9, rfl, innX9, tyX9_ok, eg 126 (by decide +kernel) rfl, eg 128 (by decide +kernel) rfl, eg 62 (by decide +kernel) rfl, by decide⟩
theorem ci_X3_21 : ECIN RX3 21 mX9_init 0 := ⟨⟨"PolicyDesk", List.mem_of_getElem? (i := 129) (by decide +kernel)⟩, eg 130 (by decide +kernel) rfl, rfl, rfl, caX9_init⟩
theorem gf_X3_17 : EGF RX3 17 1 1 := ⟨RX3, TX3, 2, rfl, innX3, by decide, eg 149 (by decide +kernel) rfl⟩
theorem cv_X3_22 : ECV RX3 22 mX3_hasRoom 0 := ⟨eg 718 (by decide +kernel) rfl, eg 695 (by decide +kernel) rfl, eg 696 (by decide +kernel) rfl, caX3_hasRoom⟩
theorem cv_X3_26 : ECV RX3 26 mX3_isWrong 1 := ⟨eg 730 (by decide +kernel) rfl, eg 732 (by decide +kernel) rfl, eg 13 (by decide +kernel) rfl, caX3_isWrong⟩
theorem gz_X3_30 : Cond.fieldLink RX3 30 "PolicyDesk$Kind" "TYPE" "LPolicyDesk$Kind;" ∈ egood := eg 773 (by decide +kernel) rfl
theorem cv_X3_36 : ECV RX3 36 mX3_howMany 2 := ⟨eg 764 (by decide +kernel) rfl, eg 766 (by decide +kernel) rfl, eg 15 (by decide +kernel) rfl, caX3_howMany⟩
theorem gz_X3_40 : Cond.fieldLink RX3 40 "PolicyDesk$Kind" "CLASS" "LPolicyDesk$Kind;" ∈ egood := eg 763 (by decide +kernel) rfl
theorem gz_X3_43 : Cond.fieldLink RX3 43 "PolicyDesk$1" "$SwitchMap$PolicyDesk$Kind" "[I" ∈ egood := eg 734 (by decide +kernel) rfl
theorem cv_X3_49 : ECV RX3 49 mX9_kind 0 := ⟨eg 736 (by decide +kernel) rfl, eg 517 (by decide +kernel) rfl, eg 518 (by decide +kernel) rfl, caX9_kind⟩
theorem cv_X3_57 : ECV RX3 57 mX3_repeats 2 := ⟨eg 743 (by decide +kernel) rfl, eg 745 (by decide +kernel) rfl, eg 14 (by decide +kernel) rfl, caX3_repeats⟩
theorem cv_X3_61 : ECV RX3 61 mX9_allDifferFrom 1 := ⟨eg 755 (by decide +kernel) rfl, eg 756 (by decide +kernel) rfl, eg 757 (by decide +kernel) rfl, caX9_allDifferFrom⟩
theorem cv_X3_64 : ECV RX3 64 mX9_word 1 := ⟨eg 768 (by decide +kernel) rfl, eg 752 (by decide +kernel) rfl, eg 753 (by decide +kernel) rfl, caX9_word⟩
theorem cv_X3_68 : ECV RX3 68 mX3_isAttribute 1 := ⟨eg 769 (by decide +kernel) rfl, eg 771 (by decide +kernel) rfl, eg 16 (by decide +kernel) rfl, caX3_isAttribute⟩
theorem cv_X3_71 : ECV RX3 71 mX3_isDoer 1 := ⟨eg 776 (by decide +kernel) rfl, eg 778 (by decide +kernel) rfl, eg 17 (by decide +kernel) rfl, caX3_isDoer⟩
theorem lc_X3_74 : Cond.constant RX3 74 (628102) ∈ egood := eg 788 (by decide +kernel) rfl
theorem cv_X3_75 : ECV RX3 75 mX3_declaresPermissions 2 := ⟨eg 789 (by decide +kernel) rfl, eg 791 (by decide +kernel) rfl, eg 19 (by decide +kernel) rfl, caX3_declaresPermissions⟩
theorem cv_X3_79 : ECV RX3 79 mX3_isType 1 := ⟨eg 780 (by decide +kernel) rfl, eg 782 (by decide +kernel) rfl, eg 18 (by decide +kernel) rfl, caX3_isType⟩
theorem cv_X3_82 : ECV RX3 82 mX3_numberOf 2 := ⟨eg 784 (by decide +kernel) rfl, eg 785 (by decide +kernel) rfl, eg 786 (by decide +kernel) rfl, caX3_numberOf⟩
theorem cv_X3_85 : ECV RX3 85 mX9_beginsAs 2 := ⟨eg 747 (by decide +kernel) rfl, eg 748 (by decide +kernel) rfl, eg 749 (by decide +kernel) rfl, caX9_beginsAs⟩
theorem cv_X3_88 : ECV RX3 88 mX9_find 2 := ⟨eg 775 (by decide +kernel) rfl, eg 760 (by decide +kernel) rfl, eg 761 (by decide +kernel) rfl, caX9_find⟩
theorem cv_X3_92 : ECV RX3 92 mX9_size 0 := ⟨eg 793 (by decide +kernel) rfl, eg 794 (by decide +kernel) rfl, eg 795 (by decide +kernel) rfl, caX9_size⟩
theorem cv_X3_94 : ECV RX3 94 mX3_declaresPermission 2 := ⟨eg 797 (by decide +kernel) rfl, eg 799 (by decide +kernel) rfl, eg 20 (by decide +kernel) rfl, caX3_declaresPermission⟩
theorem cv_X4_9 : ECV RX4 9 mX1_clear 0 := ⟨eg 386 (by decide +kernel) rfl, eg 387 (by decide +kernel) rfl, eg 388 (by decide +kernel) rfl, caX1_clear⟩
theorem cv_X4_14 : ECV RX4 14 mX7_types 0 := ⟨eg 390 (by decide +kernel) rfl, eg 356 (by decide +kernel) rfl, eg 357 (by decide +kernel) rfl, caX7_types⟩
theorem cv_X4_20 : ECV RX4 20 mX1_push 1 := ⟨eg 391 (by decide +kernel) rfl, eg 392 (by decide +kernel) rfl, eg 393 (by decide +kernel) rfl, caX1_push⟩
theorem cv_X4_24 : ECV RX4 24 mX7_classes 0 := ⟨eg 395 (by decide +kernel) rfl, eg 360 (by decide +kernel) rfl, eg 361 (by decide +kernel) rfl, caX7_classes⟩
theorem cv_X4_27 : ECV RX4 27 mX7_permissionsOf 1 := ⟨eg 396 (by decide +kernel) rfl, eg 397 (by decide +kernel) rfl, eg 398 (by decide +kernel) rfl, caX7_permissionsOf⟩
theorem cv_X4_31 : ECV RX4 31 mX7_rankOf 1 := ⟨eg 400 (by decide +kernel) rfl, eg 335 (by decide +kernel) rfl, eg 336 (by decide +kernel) rfl, caX7_rankOf⟩
theorem cs_X4_34 : ECS RX4 34 mX4_encodeClass 3 := ⟨eg 401 (by decide +kernel) rfl, eg 402 (by decide +kernel) rfl, caX4_encodeClass⟩
theorem cv_X4_40 : ECV RX4 40 mX7_allowedAt 3 := ⟨eg 404 (by decide +kernel) rfl, eg 348 (by decide +kernel) rfl, eg 349 (by decide +kernel) rfl, caX7_allowedAt⟩
theorem cv_X4_44 : ECV RX4 44 mX7_productAt 3 := ⟨eg 405 (by decide +kernel) rfl, eg 297 (by decide +kernel) rfl, eg 298 (by decide +kernel) rfl, caX7_productAt⟩
theorem cv_X4_47 : ECV RX4 47 mX7_maskAt 2 := ⟨eg 406 (by decide +kernel) rfl, eg 340 (by decide +kernel) rfl, eg 341 (by decide +kernel) rfl, caX7_maskAt⟩
theorem cv_X4_51 : ECV RX4 51 mX7_clear 0 := ⟨eg 953 (by decide +kernel) rfl, eg 806 (by decide +kernel) rfl, eg 807 (by decide +kernel) rfl, caX7_clear⟩
theorem cv_X4_52 : ECV RX4 52 mX1_rewind 0 := ⟨eg 954 (by decide +kernel) rfl, eg 955 (by decide +kernel) rfl, eg 956 (by decide +kernel) rfl, caX1_rewind⟩
theorem cv_X4_55 : ECV RX4 55 mX1_take 2 := ⟨eg 958 (by decide +kernel) rfl, eg 959 (by decide +kernel) rfl, eg 960 (by decide +kernel) rfl, caX1_take⟩
theorem cv_X4_58 : ECV RX4 58 mX7_declareClass 1 := ⟨eg 963 (by decide +kernel) rfl, eg 829 (by decide +kernel) rfl, eg 830 (by decide +kernel) rfl, caX7_declareClass⟩
theorem cv_X4_61 : ECV RX4 61 mX7_declareType 0 := ⟨eg 964 (by decide +kernel) rfl, eg 823 (by decide +kernel) rfl, eg 824 (by decide +kernel) rfl, caX7_declareType⟩
theorem cv_X4_64 : ECV RX4 64 mX7_setRank 2 := ⟨eg 965 (by decide +kernel) rfl, eg 869 (by decide +kernel) rfl, eg 870 (by decide +kernel) rfl, caX7_setRank⟩
theorem cs_X4_68 : ECS RX4 68 mX4_decodeClass 3 := ⟨eg 966 (by decide +kernel) rfl, eg 967 (by decide +kernel) rfl, caX4_decodeClass⟩
theorem cv_X4_72 : ECV RX4 72 mX1_isTakenWhole 0 := ⟨eg 975 (by decide +kernel) rfl, eg 976 (by decide +kernel) rfl, eg 977 (by decide +kernel) rfl, caX1_isTakenWhole⟩
theorem cv_X4_76 : ECV RX4 76 mX7_setAllowed 4 := ⟨eg 969 (by decide +kernel) rfl, eg 970 (by decide +kernel) rfl, eg 971 (by decide +kernel) rfl, caX7_setAllowed⟩
theorem cv_X4_80 : ECV RX4 80 mX7_setProduct 4 := ⟨eg 973 (by decide +kernel) rfl, eg 861 (by decide +kernel) rfl, eg 862 (by decide +kernel) rfl, caX7_setProduct⟩
theorem cv_X4_83 : ECV RX4 83 mX7_addToMask 3 := ⟨eg 974 (by decide +kernel) rfl, eg 876 (by decide +kernel) rfl, eg 877 (by decide +kernel) rfl, caX7_addToMask⟩
theorem ob_X6_3 : Cond.methodLink RX6 3 objectInit ∈ egood := eg 166 (by decide +kernel) rfl
theorem pf_X6_9 : EPF RX6 9 2 2 (.int) false := ⟨RX6, TX6, 5, tyX6, rfl, innX6, by decide, eg 169 (by decide +kernel) rfl, tyX6_ok, nmX6, rfl, rfl, fun _ => rfl⟩
theorem pf_X6_15 : EPF RX6 15 2 3 (.int) false := ⟨RX6, TX6, 5, tyX6, rfl, innX6, by decide, eg 170 (by decide +kernel) rfl, tyX6_ok, nmX6, rfl, rfl, fun _ => rfl⟩
theorem pf_X6_18 : EPF RX6 18 2 4 (.int) false := ⟨RX6, TX6, 5, tyX6, rfl, innX6, by decide, eg 171 (by decide +kernel) rfl, tyX6_ok, nmX6, rfl, rfl, fun _ => rfl⟩
theorem pf_X6_21 : EPF RX6 21 2 0 (.array .int) true := ⟨RX6, TX6, 5, tyX6, rfl, innX6, by decide, eg 167 (by decide +kernel) rfl, tyX6_ok, nmX6, rfl, rfl, fun _ => rfl⟩
theorem pf_X6_25 : EPF RX6 25 2 1 (.array .int) true := ⟨RX6, TX6, 5, tyX6, rfl, innX6, by decide, eg 168 (by decide +kernel) rfl, tyX6_ok, nmX6, rfl, rfl, fun _ => rfl⟩
theorem gf_X6_9 : EGF RX6 9 2 2 := ⟨RX6, TX6, 5, rfl, innX6, by decide, eg 169 (by decide +kernel) rfl⟩
theorem gf_X6_15 : EGF RX6 15 2 3 := ⟨RX6, TX6, 5, rfl, innX6, by decide, eg 170 (by decide +kernel) rfl⟩
theorem gf_X6_18 : EGF RX6 18 2 4 := ⟨RX6, TX6, 5, rfl, innX6, by decide, eg 171 (by decide +kernel) rfl⟩
theorem gf_X6_21 : EGF RX6 21 2 0 := ⟨RX6, TX6, 5, rfl, innX6, by decide, eg 167 (by decide +kernel) rfl⟩
theorem gf_X6_25 : EGF RX6 25 2 1 := ⟨RX6, TX6, 5, rfl, innX6, by decide, eg 168 (by decide +kernel) rfl⟩
theorem cv_X6_28 : ECV RX6 28 mX6_drop 1 := ⟨eg 930 (by decide +kernel) rfl, eg 932 (by decide +kernel) rfl, eg 22 (by decide +kernel) rfl, caX6_drop⟩
theorem cv_X6_32 : ECV RX6 32 mX6_append 2 := ⟨eg 934 (by decide +kernel) rfl, eg 936 (by decide +kernel) rfl, eg 23 (by decide +kernel) rfl, caX6_append⟩
theorem ob_X7_3 : Cond.methodLink RX7 3 objectInit ∈ egood := eg 207 (by decide +kernel) rfl
theorem pf_X7_9 : EPF RX7 9 3 0 (.array .int) true := ⟨RX7, TX7, 7, tyX7, rfl, innX7, by decide, eg 208 (by decide +kernel) rfl, tyX7_ok, nmX7, rfl, rfl, fun _ => rfl⟩
theorem pf_X7_15 : EPF RX7 15 3 1 (.array .int) true := ⟨RX7, TX7, 7, tyX7, rfl, innX7, by decide, eg 209 (by decide +kernel) rfl, tyX7_ok, nmX7, rfl, rfl, fun _ => rfl⟩
theorem pf_X7_18 : EPF RX7 18 3 2 (.array .int) true := ⟨RX7, TX7, 7, tyX7, rfl, innX7, by decide, eg 210 (by decide +kernel) rfl, tyX7_ok, nmX7, rfl, rfl, fun _ => rfl⟩
theorem pf_X7_21 : EPF RX7 21 3 3 (.array .int) true := ⟨RX7, TX7, 7, tyX7, rfl, innX7, by decide, eg 211 (by decide +kernel) rfl, tyX7_ok, nmX7, rfl, rfl, fun _ => rfl⟩
theorem pf_X7_24 : EPF RX7 24 3 4 (.array .int) true := ⟨RX7, TX7, 7, tyX7, rfl, innX7, by decide, eg 212 (by decide +kernel) rfl, tyX7_ok, nmX7, rfl, rfl, fun _ => rfl⟩
theorem pf_X7_27 : EPF RX7 27 3 5 (.int) false := ⟨RX7, TX7, 7, tyX7, rfl, innX7, by decide, eg 213 (by decide +kernel) rfl, tyX7_ok, nmX7, rfl, rfl, fun _ => rfl⟩
theorem pf_X7_31 : EPF RX7 31 3 6 (.int) false := ⟨RX7, TX7, 7, tyX7, rfl, innX7, by decide, eg 214 (by decide +kernel) rfl, tyX7_ok, nmX7, rfl, rfl, fun _ => rfl⟩
theorem gf_X7_9 : EGF RX7 9 3 0 := ⟨RX7, TX7, 7, rfl, innX7, by decide, eg 208 (by decide +kernel) rfl⟩
theorem cs_X7_34 : ECS RX7 34 mJ7_fill_53178 2 := ⟨eg 809 (by decide +kernel) rfl, eg 810 (by decide +kernel) rfl, caJ7_fill_53178⟩
theorem gf_X7_15 : EGF RX7 15 3 1 := ⟨RX7, TX7, 7, rfl, innX7, by decide, eg 209 (by decide +kernel) rfl⟩
theorem gf_X7_18 : EGF RX7 18 3 2 := ⟨RX7, TX7, 7, rfl, innX7, by decide, eg 210 (by decide +kernel) rfl⟩
theorem gf_X7_21 : EGF RX7 21 3 3 := ⟨RX7, TX7, 7, rfl, innX7, by decide, eg 211 (by decide +kernel) rfl⟩
theorem gf_X7_24 : EGF RX7 24 3 4 := ⟨RX7, TX7, 7, rfl, innX7, by decide, eg 212 (by decide +kernel) rfl⟩
theorem gf_X7_27 : EGF RX7 27 3 5 := ⟨RX7, TX7, 7, rfl, innX7, by decide, eg 213 (by decide +kernel) rfl⟩
theorem gf_X7_31 : EGF RX7 31 3 6 := ⟨RX7, TX7, 7, rfl, innX7, by decide, eg 214 (by decide +kernel) rfl⟩
theorem cv_X7_40 : ECV RX7 40 mX7_hasType 1 := ⟨eg 338 (by decide +kernel) rfl, eg 312 (by decide +kernel) rfl, eg 313 (by decide +kernel) rfl, caX7_hasType⟩
theorem cv_X7_44 : ECV RX7 44 mX7_has 3 := ⟨eg 300 (by decide +kernel) rfl, eg 301 (by decide +kernel) rfl, eg 302 (by decide +kernel) rfl, caX7_has⟩
theorem cs_X7_48 : ECSN RX7 48 mX11_cellOf 3 := ⟨⟨"PolicyDesk", List.mem_of_getElem? (i := 304) (by decide +kernel)⟩, eg 305 (by decide +kernel) rfl, caX11_cellOf⟩
theorem cs_X7_52 : ECSN RX7 52 mX11_hasBit 2 := ⟨⟨"PolicyDesk", List.mem_of_getElem? (i := 319) (by decide +kernel)⟩, eg 320 (by decide +kernel) rfl, caX11_hasBit⟩
theorem cv_X7_56 : ECV RX7 56 mX7_allowedAt 3 := ⟨eg 347 (by decide +kernel) rfl, eg 348 (by decide +kernel) rfl, eg 349 (by decide +kernel) rfl, caX7_allowedAt⟩
theorem cv_X7_59 : ECV RX7 59 mX7_hasMask 2 := ⟨eg 343 (by decide +kernel) rfl, eg 345 (by decide +kernel) rfl, eg 3 (by decide +kernel) rfl, caX7_hasMask⟩
theorem cv_X7_62 : ECV RX7 62 mX7_rankOf 1 := ⟨eg 334 (by decide +kernel) rfl, eg 335 (by decide +kernel) rfl, eg 336 (by decide +kernel) rfl, caX7_rankOf⟩
theorem cv_X7_66 : ECV RX7 66 mX7_maskAt 2 := ⟨eg 339 (by decide +kernel) rfl, eg 340 (by decide +kernel) rfl, eg 341 (by decide +kernel) rfl, caX7_maskAt⟩
theorem cv_X7_70 : ECV RX7 70 mX7_spread 1 := ⟨eg 322 (by decide +kernel) rfl, eg 324 (by decide +kernel) rfl, eg 1 (by decide +kernel) rfl, caX7_spread⟩
theorem cv_X7_73 : ECV RX7 73 mX7_flowsInOneStep 2 := ⟨eg 326 (by decide +kernel) rfl, eg 328 (by decide +kernel) rfl, eg 2 (by decide +kernel) rfl, caX7_flowsInOneStep⟩
theorem cv_X7_76 : ECV RX7 76 mX7_permitted 3 := ⟨eg 330 (by decide +kernel) rfl, eg 331 (by decide +kernel) rfl, eg 332 (by decide +kernel) rfl, caX7_permitted⟩
theorem ob_X8_3 : Cond.methodLink RX8 3 objectInit ∈ egood := eg 112 (by decide +kernel) rfl
theorem pf_X8_9 : EPF RX8 9 4 1 (.int) false := ⟨RX8, TX8, 2, tyX8, rfl, innX8, by decide, eg 114 (by decide +kernel) rfl, tyX8_ok, nmX8, rfl, rfl, fun _ => rfl⟩
theorem pf_X8_15 : EPF RX8 15 4 0 (.object "PolicyDesk$Text") true := ⟨RX8, TX8, 2, tyX8, rfl, innX8, by decide, eg 113 (by decide +kernel) rfl, tyX8_ok, nmX8, rfl, rfl, fun _ => rfl⟩
theorem gf_X8_9 : EGF RX8 9 4 1 := ⟨RX8, TX8, 2, rfl, innX8, by decide, eg 114 (by decide +kernel) rfl⟩
theorem cv_X8_19 : ECV RX8 19 mX8_keyword 1 := ⟨eg 449 (by decide +kernel) rfl, eg 451 (by decide +kernel) rfl, eg 4 (by decide +kernel) rfl, caX8_keyword⟩
theorem cv_X8_23 : ECV RX8 23 mX9_kind 0 := ⟨eg 516 (by decide +kernel) rfl, eg 517 (by decide +kernel) rfl, eg 518 (by decide +kernel) rfl, caX9_kind⟩
theorem gn_X8_29 : Cond.fieldLinkNest RX8 29 "PolicyDesk$Kind" "names" "I" "PolicyDesk" ∈ lw_tbl := List.mem_of_getElem? (i := 1297) (by decide +kernel)
theorem cv_X8_34 : ECV RX8 34 mX8_names 2 := ⟨eg 520 (by decide +kernel) rfl, eg 522 (by decide +kernel) rfl, eg 6 (by decide +kernel) rfl, caX8_names⟩
theorem gn_X8_37 : Cond.fieldLinkNest RX8 37 "PolicyDesk$Kind" "marks" "Ljava/lang/String;" "PolicyDesk" ∈ lw_tbl := List.mem_of_getElem? (i := 1298) (by decide +kernel)
theorem cv_X8_41 : ECV RX8 41 mX8_mark 2 := ⟨eg 539 (by decide +kernel) rfl, eg 541 (by decide +kernel) rfl, eg 9 (by decide +kernel) rfl, caX8_mark⟩
theorem gn_X8_45 : Cond.fieldLinkNest RX8 45 "PolicyDesk$Kind" "fewest" "I" "PolicyDesk" ∈ lw_tbl := List.mem_of_getElem? (i := 1299) (by decide +kernel)
theorem gn_X8_48 : Cond.fieldLinkNest RX8 48 "PolicyDesk$Kind" "most" "I" "PolicyDesk" ∈ lw_tbl := List.mem_of_getElem? (i := 1300) (by decide +kernel)
theorem cv_X8_51 : ECV RX8 51 mX8_list 3 := ⟨eg 614 (by decide +kernel) rfl, eg 616 (by decide +kernel) rfl, eg 11 (by decide +kernel) rfl, caX8_list⟩
theorem gz_X8_55 : Cond.fieldLinkNest RX8 55 "PolicyDesk" "KINDS" "[LPolicyDesk$Kind;" "PolicyDesk" ∈ lw_tbl := List.mem_of_getElem? (i := 453) (by decide +kernel)
theorem gn_X8_59 : Cond.fieldLinkNest RX8 59 "PolicyDesk$Kind" "word" "Ljava/lang/String;" "PolicyDesk" ∈ lw_tbl := List.mem_of_getElem? (i := 1294) (by decide +kernel)
theorem cv_X8_62 : ECV RX8 62 mX8_lettersShared 1 := ⟨eg 455 (by decide +kernel) rfl, eg 457 (by decide +kernel) rfl, eg 5 (by decide +kernel) rfl, caX8_lettersShared⟩
theorem cv_X8_66 : ECV RX8 66 mJ0_length_8abf5 0 := ⟨eg 459 (by decide +kernel) rfl, eg 460 (by decide +kernel) rfl, eg 461 (by decide +kernel) rfl, caJ0_length_8abf5⟩
theorem cv_X8_72 : ECV RX8 72 mX9_begin 1 := ⟨eg 511 (by decide +kernel) rfl, eg 512 (by decide +kernel) rfl, eg 513 (by decide +kernel) rfl, caX9_begin⟩
theorem cs_X8_76 : ECS RX8 76 mJ9_max_7cf53 2 := ⟨eg 515 (by decide +kernel) rfl, eg 161 (by decide +kernel) rfl, caJ9_max_7cf53⟩
theorem gf_X8_15 : EGF RX8 15 4 0 := ⟨RX8, TX8, 2, rfl, innX8, by decide, eg 113 (by decide +kernel) rfl⟩
theorem cv_X8_82 : ECV RX8 82 mX10_codeAt 1 := ⟨eg 469 (by decide +kernel) rfl, eg 470 (by decide +kernel) rfl, eg 471 (by decide +kernel) rfl, caX10_codeAt⟩
theorem cv_X8_88 : ECV RX8 88 mJ0_charAt_5068e 1 := ⟨eg 473 (by decide +kernel) rfl, eg 474 (by decide +kernel) rfl, eg 475 (by decide +kernel) rfl, caJ0_charAt_5068e⟩
theorem cv_X8_92 : ECV RX8 92 mX8_blank 0 := ⟨eg 524 (by decide +kernel) rfl, eg 526 (by decide +kernel) rfl, eg 7 (by decide +kernel) rfl, caX8_blank⟩
theorem cv_X8_96 : ECV RX8 96 mX8_name 1 := ⟨eg 528 (by decide +kernel) rfl, eg 530 (by decide +kernel) rfl, eg 8 (by decide +kernel) rfl, caX8_name⟩
theorem cv_X8_99 : ECV RX8 99 mJ0_isEmpty_aae02 0 := ⟨eg 543 (by decide +kernel) rfl, eg 544 (by decide +kernel) rfl, eg 545 (by decide +kernel) rfl, caJ0_isEmpty_aae02⟩
theorem cv_X8_102 : ECV RX8 102 mX8_atEnd 0 := ⟨eg 547 (by decide +kernel) rfl, eg 549 (by decide +kernel) rfl, eg 10 (by decide +kernel) rfl, caX8_atEnd⟩
theorem cv_X8_105 : ECV RX8 105 mJ0_indexOf_0f7a4 1 := ⟨eg 555 (by decide +kernel) rfl, eg 556 (by decide +kernel) rfl, eg 557 (by decide +kernel) rfl, caJ0_indexOf_0f7a4⟩
theorem cv_X8_108 : ECV RX8 108 mX9_setMark 1 := ⟨eg 610 (by decide +kernel) rfl, eg 611 (by decide +kernel) rfl, eg 612 (by decide +kernel) rfl, caX9_setMark⟩
theorem cs_X8_112 : ECS RX8 112 mX8_isLetter 1 := ⟨eg 532 (by decide +kernel) rfl, eg 533 (by decide +kernel) rfl, caX8_isLetter⟩
theorem cv_X8_116 : ECV RX8 116 mX9_push 1 := ⟨eg 535 (by decide +kernel) rfl, eg 536 (by decide +kernel) rfl, eg 537 (by decide +kernel) rfl, caX9_push⟩
theorem cv_X8_119 : ECV RX8 119 mX10_length 0 := ⟨eg 551 (by decide +kernel) rfl, eg 552 (by decide +kernel) rfl, eg 553 (by decide +kernel) rfl, caX10_length⟩
theorem ob_X9_3 : Cond.methodLink RX9 3 objectInit ∈ egood := eg 132 (by decide +kernel) rfl
theorem pf_X9_9 : EPF RX9 9 5 0 (.array .int) true := ⟨RX9, TX9, 4, tyX9, rfl, innX9, by decide, eg 135 (by decide +kernel) rfl, tyX9_ok, nmX9, rfl, rfl, fun _ => rfl⟩
theorem gz_X9_15 : Cond.fieldLink RX9 15 "PolicyDesk$Kind" "CLASS" "LPolicyDesk$Kind;" ∈ egood := eg 133 (by decide +kernel) rfl
theorem pf_X9_21 : EPF RX9 21 5 1 (.object "PolicyDesk$Kind") false := ⟨RX9, TX9, 4, tyX9, rfl, innX9, by decide, eg 136 (by decide +kernel) rfl, tyX9_ok, nmX9, rfl, rfl, fun _ => rfl⟩
theorem pf_X9_24 : EPF RX9 24 5 2 (.int) false := ⟨RX9, TX9, 4, tyX9, rfl, innX9, by decide, eg 137 (by decide +kernel) rfl, tyX9_ok, nmX9, rfl, rfl, fun _ => rfl⟩
theorem pf_X9_28 : EPF RX9 28 5 3 (.int) false := ⟨RX9, TX9, 4, tyX9, rfl, innX9, by decide, eg 138 (by decide +kernel) rfl, tyX9_ok, nmX9, rfl, rfl, fun _ => rfl⟩
theorem gf_X9_24 : EGF RX9 24 5 2 := ⟨RX9, TX9, 4, rfl, innX9, by decide, eg 137 (by decide +kernel) rfl⟩
theorem gf_X9_9 : EGF RX9 9 5 0 := ⟨RX9, TX9, 4, rfl, innX9, by decide, eg 135 (by decide +kernel) rfl⟩
theorem gf_X9_21 : EGF RX9 21 5 1 := ⟨RX9, TX9, 4, rfl, innX9, by decide, eg 136 (by decide +kernel) rfl⟩
theorem gf_X9_28 : EGF RX9 28 5 3 := ⟨RX9, TX9, 4, rfl, innX9, by decide, eg 138 (by decide +kernel) rfl⟩
theorem cv_X9_31 : ECV RX9 31 mX9_word 1 := ⟨eg 751 (by decide +kernel) rfl, eg 752 (by decide +kernel) rfl, eg 753 (by decide +kernel) rfl, caX9_word⟩
theorem cv_X9_35 : ECV RX9 35 mX9_find 2 := ⟨eg 759 (by decide +kernel) rfl, eg 760 (by decide +kernel) rfl, eg 761 (by decide +kernel) rfl, caX9_find⟩
theorem ob_X10_3 : Cond.methodLink RX10 3 objectInit ∈ egood := eg 98 (by decide +kernel) rfl
theorem pf_X10_9 : EPF RX10 9 6 0 (.array .int) true := ⟨RX10, TX10, 2, tyX10, rfl, innX10, by decide, eg 99 (by decide +kernel) rfl, tyX10_ok, nmX10, rfl, rfl, fun _ => rfl⟩
theorem pf_X10_15 : EPF RX10 15 6 1 (.int) false := ⟨RX10, TX10, 2, tyX10, rfl, innX10, by decide, eg 100 (by decide +kernel) rfl, tyX10_ok, nmX10, rfl, rfl, fun _ => rfl⟩
theorem cs_X10_19 : ECSN RX10 19 mX11_byteOf 2 := ⟨⟨"PolicyDesk", List.mem_of_getElem? (i := 269) (by decide +kernel)⟩, eg 270 (by decide +kernel) rfl, caX11_byteOf⟩
theorem gf_X10_9 : EGF RX10 9 6 0 := ⟨RX10, TX10, 2, rfl, innX10, by decide, eg 99 (by decide +kernel) rfl⟩
theorem gf_X10_15 : EGF RX10 15 6 1 := ⟨RX10, TX10, 2, rfl, innX10, by decide, eg 100 (by decide +kernel) rfl⟩
theorem cv_X10_23 : ECV RX10 23 mX10_appendCode 1 := ⟨eg 272 (by decide +kernel) rfl, eg 274 (by decide +kernel) rfl, eg 0 (by decide +kernel) rfl, caX10_appendCode⟩
theorem ob_X11_1 : Cond.methodLink RX11 1 objectInit ∈ egood := eg 90 (by decide +kernel) rfl
theorem nw_X11_7 : ENW RX11 7 6 2 [.null, .int 0] := ⟨RX10, TX10, tyX10, rfl, innX10, tyX10_ok, eg 93 (by decide +kernel) rfl, eg 94 (by decide +kernel) rfl, eg 59 (by decide +kernel) rfl, by decide⟩
theorem ci_X11_9 : ECIN RX11 9 mX10_init 0 := ⟨⟨"PolicyDesk", List.mem_of_getElem? (i := 95) (by decide +kernel)⟩, eg 96 (by decide +kernel) rfl, rfl, rfl, caX10_init⟩
theorem pf_X11_10 : EPF RX11 10 7 0 (.object "PolicyDesk$Text") true := ⟨RX11, TX11, 10, tyX11, rfl, innX11, by decide, eg 230 (by decide +kernel) rfl, tyX11_ok, nmX11, rfl, rfl, fun _ => rfl⟩
theorem nw_X11_16 : ENW RX11 16 4 2 [.null, .int 0] := ⟨RX8, TX8, tyX8, rfl, innX8, tyX8_ok, eg 107 (by decide +kernel) rfl, eg 108 (by decide +kernel) rfl, eg 60 (by decide +kernel) rfl, by decide⟩
theorem gf_X11_10 : EGF RX11 10 7 0 := ⟨RX11, TX11, 10, rfl, innX11, by decide, eg 230 (by decide +kernel) rfl⟩
theorem ci_X11_18 : ECI RX11 18 mX8_init 1 := ⟨eg 109 (by decide +kernel) rfl, eg 110 (by decide +kernel) rfl, rfl, rfl, caX8_init⟩
theorem pf_X11_21 : EPF RX11 21 7 1 (.object "PolicyDesk$Reader") true := ⟨RX11, TX11, 10, tyX11, rfl, innX11, by decide, eg 231 (by decide +kernel) rfl, tyX11_ok, nmX11, rfl, rfl, fun _ => rfl⟩
theorem nw_X11_25 : ENW RX11 25 1 2 [.null, .int 0] := ⟨RX3, TX3, tyX3, rfl, innX3, tyX3_ok, eg 120 (by decide +kernel) rfl, eg 121 (by decide +kernel) rfl, eg 61 (by decide +kernel) rfl, by decide⟩
theorem ci_X11_27 : ECI RX11 27 mX3_init 0 := ⟨eg 122 (by decide +kernel) rfl, eg 123 (by decide +kernel) rfl, rfl, rfl, caX3_init⟩
theorem pf_X11_28 : EPF RX11 28 7 2 (.object "PolicyDesk$Draft") true := ⟨RX11, TX11, 10, tyX11, rfl, innX11, by decide, eg 232 (by decide +kernel) rfl, tyX11_ok, nmX11, rfl, rfl, fun _ => rfl⟩
theorem nw_X11_32 : ENW RX11 32 2 5 [.null, .null, .int 0, .int 0, .int 0] := ⟨RX6, TX6, tyX6, rfl, innX6, tyX6_ok, eg 155 (by decide +kernel) rfl, eg 156 (by decide +kernel) rfl, eg 65 (by decide +kernel) rfl, by decide⟩
theorem cs_X11_34 : ECS RX11 34 mJ9_min_7cf53 2 := ⟨eg 157 (by decide +kernel) rfl, eg 158 (by decide +kernel) rfl, caJ9_min_7cf53⟩
theorem cs_X11_40 : ECS RX11 40 mJ9_max_7cf53 2 := ⟨eg 160 (by decide +kernel) rfl, eg 161 (by decide +kernel) rfl, caJ9_max_7cf53⟩
theorem ci_X11_43 : ECI RX11 43 mX6_init 1 := ⟨eg 163 (by decide +kernel) rfl, eg 164 (by decide +kernel) rfl, rfl, rfl, caX6_init⟩
theorem pf_X11_46 : EPF RX11 46 7 3 (.object "PolicyDesk$Memory") true := ⟨RX11, TX11, 10, tyX11, rfl, innX11, by decide, eg 233 (by decide +kernel) rfl, tyX11_ok, nmX11, rfl, rfl, fun _ => rfl⟩
theorem nw_X11_50 : ENW RX11 50 0 4 [.null, .int 0, .int 0, .int 0] := ⟨RX1, TX1, tyX1, rfl, innX1, tyX1_ok, eg 183 (by decide +kernel) rfl, eg 184 (by decide +kernel) rfl, eg 67 (by decide +kernel) rfl, by decide⟩
theorem ci_X11_52 : ECIN RX11 52 mX1_init 0 := ⟨⟨"PolicyDesk", List.mem_of_getElem? (i := 185) (by decide +kernel)⟩, eg 186 (by decide +kernel) rfl, rfl, rfl, caX1_init⟩
theorem pf_X11_53 : EPF RX11 53 7 4 (.object "PolicyDesk$ByteRow") true := ⟨RX11, TX11, 10, tyX11, rfl, innX11, by decide, eg 234 (by decide +kernel) rfl, tyX11_ok, nmX11, rfl, rfl, fun _ => rfl⟩
theorem pf_X11_57 : EPF RX11 57 7 5 (.object "PolicyDesk$ByteRow") true := ⟨RX11, TX11, 10, tyX11, rfl, innX11, by decide, eg 235 (by decide +kernel) rfl, tyX11_ok, nmX11, rfl, rfl, fun _ => rfl⟩
theorem nw_X11_60 : ENW RX11 60 3 7 [.null, .null, .null, .null, .null, .int 0, .int 0] := ⟨RX7, TX7, tyX7, rfl, innX7, tyX7_ok, eg 202 (by decide +kernel) rfl, eg 203 (by decide +kernel) rfl, eg 68 (by decide +kernel) rfl, by decide⟩
theorem ci_X11_62 : ECIN RX11 62 mX7_init 0 := ⟨⟨"PolicyDesk", List.mem_of_getElem? (i := 204) (by decide +kernel)⟩, eg 205 (by decide +kernel) rfl, rfl, rfl, caX7_init⟩
theorem pf_X11_63 : EPF RX11 63 7 6 (.object "PolicyDesk$Policy") false := ⟨RX11, TX11, 10, tyX11, rfl, innX11, by decide, eg 236 (by decide +kernel) rfl, tyX11_ok, nmX11, rfl, rfl, fun _ => rfl⟩
theorem pf_X11_67 : EPF RX11 67 7 7 (.object "PolicyDesk$Policy") false := ⟨RX11, TX11, 10, tyX11, rfl, innX11, by decide, eg 237 (by decide +kernel) rfl, tyX11_ok, nmX11, rfl, rfl, fun _ => rfl⟩
theorem pf_X11_70 : EPF RX11 70 7 8 (.int) false := ⟨RX11, TX11, 10, tyX11, rfl, innX11, by decide, eg 238 (by decide +kernel) rfl, tyX11_ok, nmX11, rfl, rfl, fun _ => rfl⟩
theorem pf_X11_74 : EPF RX11 74 7 9 (.int) false := ⟨RX11, TX11, 10, tyX11, rfl, innX11, by decide, eg 239 (by decide +kernel) rfl, tyX11_ok, nmX11, rfl, rfl, fun _ => rfl⟩
theorem cv_X11_77 : ECV RX11 77 mX10_append 1 := ⟨eg 265 (by decide +kernel) rfl, eg 266 (by decide +kernel) rfl, eg 267 (by decide +kernel) rfl, caX10_append⟩
theorem gf_X11_21 : EGF RX11 21 7 1 := ⟨RX11, TX11, 10, rfl, innX11, by decide, eg 231 (by decide +kernel) rfl⟩
theorem gf_X11_28 : EGF RX11 28 7 2 := ⟨RX11, TX11, 10, rfl, innX11, by decide, eg 232 (by decide +kernel) rfl⟩
theorem cv_X11_81 : ECV RX11 81 mX3_spare 0 := ⟨eg 441 (by decide +kernel) rfl, eg 442 (by decide +kernel) rfl, eg 443 (by decide +kernel) rfl, caX3_spare⟩
theorem cv_X11_85 : ECV RX11 85 mX8_parse 1 := ⟨eg 445 (by decide +kernel) rfl, eg 446 (by decide +kernel) rfl, eg 447 (by decide +kernel) rfl, caX8_parse⟩
theorem cv_X11_89 : ECV RX11 89 mX8_stoppedAt 0 := ⟨eg 618 (by decide +kernel) rfl, eg 619 (by decide +kernel) rfl, eg 620 (by decide +kernel) rfl, caX8_stoppedAt⟩
theorem cv_X11_93 : ECV RX11 93 mX10_clear 0 := ⟨eg 622 (by decide +kernel) rfl, eg 623 (by decide +kernel) rfl, eg 624 (by decide +kernel) rfl, caX10_clear⟩
theorem cv_X11_103 : ECV RX11 103 mX3_hasRoom 0 := ⟨eg 694 (by decide +kernel) rfl, eg 695 (by decide +kernel) rfl, eg 696 (by decide +kernel) rfl, caX3_hasRoom⟩
theorem cv_X11_112 : ECV RX11 112 mX3_keepSpare 0 := ⟨eg 714 (by decide +kernel) rfl, eg 715 (by decide +kernel) rfl, eg 716 (by decide +kernel) rfl, caX3_keepSpare⟩
theorem gf_X11_70 : EGF RX11 70 7 8 := ⟨RX11, TX11, 10, rfl, innX11, by decide, eg 238 (by decide +kernel) rfl⟩
theorem cv_X11_115 : ECV RX11 115 mX3_shorten 1 := ⟨eg 284 (by decide +kernel) rfl, eg 285 (by decide +kernel) rfl, eg 286 (by decide +kernel) rfl, caX3_shorten⟩
theorem cv_X11_119 : ECV RX11 119 mX3_firstWrong 0 := ⟨eg 726 (by decide +kernel) rfl, eg 727 (by decide +kernel) rfl, eg 728 (by decide +kernel) rfl, caX3_firstWrong⟩
theorem gf_X11_74 : EGF RX11 74 7 9 := ⟨RX11, TX11, 10, rfl, innX11, by decide, eg 239 (by decide +kernel) rfl⟩
theorem gf_X11_67 : EGF RX11 67 7 7 := ⟨RX11, TX11, 10, rfl, innX11, by decide, eg 237 (by decide +kernel) rfl⟩
theorem cs_X11_124 : ECS RX11 124 mX2_compose 2 := ⟨eg 802 (by decide +kernel) rfl, eg 803 (by decide +kernel) rfl, caX2_compose⟩
theorem cs_X11_130 : ECS RX11 130 mX2_firstAgainst 2 := ⟨eg 879 (by decide +kernel) rfl, eg 880 (by decide +kernel) rfl, caX2_firstAgainst⟩
theorem cv_X11_136 : ECV RX11 136 mX11_putInForce 0 := ⟨eg 892 (by decide +kernel) rfl, eg 894 (by decide +kernel) rfl, eg 21 (by decide +kernel) rfl, caX11_putInForce⟩
theorem gf_X11_63 : EGF RX11 63 7 6 := ⟨RX11, TX11, 10, rfl, innX11, by decide, eg 236 (by decide +kernel) rfl⟩
theorem cv_X11_139 : ECV RX11 139 mX7_has 3 := ⟨eg 908 (by decide +kernel) rfl, eg 301 (by decide +kernel) rfl, eg 302 (by decide +kernel) rfl, caX7_has⟩
theorem cs_X11_148 : ECS RX11 148 mX11_cellOf 3 := ⟨eg 925 (by decide +kernel) rfl, eg 305 (by decide +kernel) rfl, caX11_cellOf⟩
theorem gf_X11_46 : EGF RX11 46 7 3 := ⟨RX11, TX11, 10, rfl, innX11, by decide, eg 233 (by decide +kernel) rfl⟩
theorem cv_X11_152 : ECV RX11 152 mX6_recall 1 := ⟨eg 926 (by decide +kernel) rfl, eg 927 (by decide +kernel) rfl, eg 928 (by decide +kernel) rfl, caX6_recall⟩
theorem cv_X11_156 : ECV RX11 156 mX7_permitted 3 := ⟨eg 938 (by decide +kernel) rfl, eg 331 (by decide +kernel) rfl, eg 332 (by decide +kernel) rfl, caX7_permitted⟩
theorem cv_X11_159 : ECV RX11 159 mX6_keep 2 := ⟨eg 939 (by decide +kernel) rfl, eg 940 (by decide +kernel) rfl, eg 941 (by decide +kernel) rfl, caX6_keep⟩
theorem cv_X11_163 : ECV RX11 163 mX7_productAt 3 := ⟨eg 296 (by decide +kernel) rfl, eg 297 (by decide +kernel) rfl, eg 298 (by decide +kernel) rfl, caX7_productAt⟩
theorem cv_X11_166 : ECV RX11 166 mX7_hasType 1 := ⟨eg 311 (by decide +kernel) rfl, eg 312 (by decide +kernel) rfl, eg 313 (by decide +kernel) rfl, caX7_hasType⟩
theorem cv_X11_169 : ECV RX11 169 mX7_stepsBetween 2 := ⟨eg 315 (by decide +kernel) rfl, eg 316 (by decide +kernel) rfl, eg 317 (by decide +kernel) rfl, caX7_stepsBetween⟩
theorem cv_X11_172 : ECV RX11 172 mX7_types 0 := ⟨eg 355 (by decide +kernel) rfl, eg 356 (by decide +kernel) rfl, eg 357 (by decide +kernel) rfl, caX7_types⟩
theorem cv_X11_175 : ECV RX11 175 mX7_classes 0 := ⟨eg 359 (by decide +kernel) rfl, eg 360 (by decide +kernel) rfl, eg 361 (by decide +kernel) rfl, caX7_classes⟩
theorem cv_X11_178 : ECV RX11 178 mX6_hits 0 := ⟨eg 363 (by decide +kernel) rfl, eg 364 (by decide +kernel) rfl, eg 365 (by decide +kernel) rfl, caX6_hits⟩
theorem cv_X11_181 : ECV RX11 181 mX6_misses 0 := ⟨eg 367 (by decide +kernel) rfl, eg 368 (by decide +kernel) rfl, eg 369 (by decide +kernel) rfl, caX6_misses⟩
theorem cv_X11_184 : ECV RX11 184 mX6_size 0 := ⟨eg 371 (by decide +kernel) rfl, eg 372 (by decide +kernel) rfl, eg 373 (by decide +kernel) rfl, caX6_size⟩
theorem cv_X11_187 : ECV RX11 187 mX3_size 0 := ⟨eg 375 (by decide +kernel) rfl, eg 376 (by decide +kernel) rfl, eg 377 (by decide +kernel) rfl, caX3_size⟩
theorem gf_X11_53 : EGF RX11 53 7 4 := ⟨RX11, TX11, 10, rfl, innX11, by decide, eg 234 (by decide +kernel) rfl⟩
theorem cs_X11_188 : ECS RX11 188 mX4_encode 2 := ⟨eg 383 (by decide +kernel) rfl, eg 384 (by decide +kernel) rfl, caX4_encode⟩
theorem cv_X11_194 : ECV RX11 194 mX1_length 0 := ⟨eg 407 (by decide +kernel) rfl, eg 408 (by decide +kernel) rfl, eg 409 (by decide +kernel) rfl, caX1_length⟩
theorem cv_X11_197 : ECV RX11 197 mX1_byteAt 1 := ⟨eg 415 (by decide +kernel) rfl, eg 416 (by decide +kernel) rfl, eg 417 (by decide +kernel) rfl, caX1_byteAt⟩
theorem gf_X11_57 : EGF RX11 57 7 5 := ⟨RX11, TX11, 10, rfl, innX11, by decide, eg 235 (by decide +kernel) rfl⟩
theorem cv_X11_200 : ECV RX11 200 mX1_room 0 := ⟨eg 423 (by decide +kernel) rfl, eg 424 (by decide +kernel) rfl, eg 425 (by decide +kernel) rfl, caX1_room⟩
theorem cs_X11_203 : ECS RX11 203 mX11_byteOf 2 := ⟨eg 427 (by decide +kernel) rfl, eg 270 (by decide +kernel) rfl, caX11_byteOf⟩
theorem cv_X11_207 : ECV RX11 207 mX1_push 1 := ⟨eg 428 (by decide +kernel) rfl, eg 392 (by decide +kernel) rfl, eg 393 (by decide +kernel) rfl, caX1_push⟩
theorem cs_X11_210 : ECS RX11 210 mX4_decode 2 := ⟨eg 950 (by decide +kernel) rfl, eg 951 (by decide +kernel) rfl, caX4_decode⟩
theorem cv_X11_214 : ECV RX11 214 mX1_clear 0 := ⟨eg 979 (by decide +kernel) rfl, eg 387 (by decide +kernel) rfl, eg 388 (by decide +kernel) rfl, caX1_clear⟩
theorem cv_X11_217 : ECV RX11 217 mX6_forget 0 := ⟨eg 896 (by decide +kernel) rfl, eg 897 (by decide +kernel) rfl, eg 898 (by decide +kernel) rfl, caX6_forget⟩
theorem ob_X12_1 : Cond.methodLink RX12 1 objectInit ∈ egood := eg 986 (by decide +kernel) rfl
theorem pf_X12_7 : EPF RX12 7 8 3 (.array .char) true := ⟨RX12, TX12, 32, tyX12, rfl, innX12, by decide, eg 990 (by decide +kernel) rfl, tyX12_ok, nmX12, rfl, rfl, fun _ => rfl⟩
theorem pf_X12_13 : EPF RX12 13 8 5 (.int) false := ⟨RX12, TX12, 32, tyX12, rfl, innX12, by decide, eg 992 (by decide +kernel) rfl, tyX12_ok, nmX12, rfl, rfl, fun _ => rfl⟩
theorem pf_X12_17 : EPF RX12 17 8 7 (.array .int) true := ⟨RX12, TX12, 32, tyX12, rfl, innX12, by decide, eg 994 (by decide +kernel) rfl, tyX12_ok, nmX12, rfl, rfl, fun _ => rfl⟩
theorem pf_X12_21 : EPF RX12 21 8 8 (.array .int) true := ⟨RX12, TX12, 32, tyX12, rfl, innX12, by decide, eg 995 (by decide +kernel) rfl, tyX12_ok, nmX12, rfl, rfl, fun _ => rfl⟩
theorem pf_X12_24 : EPF RX12 24 8 9 (.array .int) true := ⟨RX12, TX12, 32, tyX12, rfl, innX12, by decide, eg 996 (by decide +kernel) rfl, tyX12_ok, nmX12, rfl, rfl, fun _ => rfl⟩
theorem pf_X12_27 : EPF RX12 27 8 10 (.array .int) true := ⟨RX12, TX12, 32, tyX12, rfl, innX12, by decide, eg 997 (by decide +kernel) rfl, tyX12_ok, nmX12, rfl, rfl, fun _ => rfl⟩
theorem pf_X12_30 : EPF RX12 30 8 11 (.int) false := ⟨RX12, TX12, 32, tyX12, rfl, innX12, by decide, eg 998 (by decide +kernel) rfl, tyX12_ok, nmX12, rfl, rfl, fun _ => rfl⟩
theorem pf_X12_33 : EPF RX12 33 8 14 (.array .int) true := ⟨RX12, TX12, 32, tyX12, rfl, innX12, by decide, eg 1001 (by decide +kernel) rfl, tyX12_ok, nmX12, rfl, rfl, fun _ => rfl⟩
theorem pf_X12_36 : EPF RX12 36 8 15 (.array .int) true := ⟨RX12, TX12, 32, tyX12, rfl, innX12, by decide, eg 1002 (by decide +kernel) rfl, tyX12_ok, nmX12, rfl, rfl, fun _ => rfl⟩
theorem pf_X12_39 : EPF RX12 39 8 16 (.array .int) true := ⟨RX12, TX12, 32, tyX12, rfl, innX12, by decide, eg 1003 (by decide +kernel) rfl, tyX12_ok, nmX12, rfl, rfl, fun _ => rfl⟩
theorem pf_X12_42 : EPF RX12 42 8 17 (.array .int) true := ⟨RX12, TX12, 32, tyX12, rfl, innX12, by decide, eg 1004 (by decide +kernel) rfl, tyX12_ok, nmX12, rfl, rfl, fun _ => rfl⟩
theorem pf_X12_45 : EPF RX12 45 8 18 (.array .int) true := ⟨RX12, TX12, 32, tyX12, rfl, innX12, by decide, eg 1005 (by decide +kernel) rfl, tyX12_ok, nmX12, rfl, rfl, fun _ => rfl⟩
theorem pf_X12_48 : EPF RX12 48 8 19 (.array .int) true := ⟨RX12, TX12, 32, tyX12, rfl, innX12, by decide, eg 1006 (by decide +kernel) rfl, tyX12_ok, nmX12, rfl, rfl, fun _ => rfl⟩
theorem pf_X12_51 : EPF RX12 51 8 20 (.array .int) true := ⟨RX12, TX12, 32, tyX12, rfl, innX12, by decide, eg 1007 (by decide +kernel) rfl, tyX12_ok, nmX12, rfl, rfl, fun _ => rfl⟩
theorem pf_X12_54 : EPF RX12 54 8 22 (.array .int) true := ⟨RX12, TX12, 32, tyX12, rfl, innX12, by decide, eg 1009 (by decide +kernel) rfl, tyX12_ok, nmX12, rfl, rfl, fun _ => rfl⟩
theorem pf_X12_57 : EPF RX12 57 8 23 (.array .int) true := ⟨RX12, TX12, 32, tyX12, rfl, innX12, by decide, eg 1010 (by decide +kernel) rfl, tyX12_ok, nmX12, rfl, rfl, fun _ => rfl⟩
theorem pf_X12_60 : EPF RX12 60 8 27 (.array .int) true := ⟨RX12, TX12, 32, tyX12, rfl, innX12, by decide, eg 1014 (by decide +kernel) rfl, tyX12_ok, nmX12, rfl, rfl, fun _ => rfl⟩
theorem pf_X12_63 : EPF RX12 63 8 29 (.array .int) true := ⟨RX12, TX12, 32, tyX12, rfl, innX12, by decide, eg 1016 (by decide +kernel) rfl, tyX12_ok, nmX12, rfl, rfl, fun _ => rfl⟩
theorem pf_X12_66 : EPF RX12 66 8 30 (.array .boolean) true := ⟨RX12, TX12, 32, tyX12, rfl, innX12, by decide, eg 1017 (by decide +kernel) rfl, tyX12_ok, nmX12, rfl, rfl, fun _ => rfl⟩
theorem pf_X12_70 : EPF RX12 70 8 31 (.array .boolean) true := ⟨RX12, TX12, 32, tyX12, rfl, innX12, by decide, eg 1018 (by decide +kernel) rfl, tyX12_ok, nmX12, rfl, rfl, fun _ => rfl⟩
theorem pf_X12_73 : EPF RX12 73 8 0 (.int) true := ⟨RX12, TX12, 32, tyX12, rfl, innX12, by decide, eg 987 (by decide +kernel) rfl, tyX12_ok, nmX12, rfl, rfl, fun _ => rfl⟩
theorem gf_X12_76 : EGF RX12 76 8 1 := ⟨RX12, TX12, 32, rfl, innX12, by decide, eg 988 (by decide +kernel) rfl⟩
theorem pf_X12_76 : EPF RX12 76 8 1 (.int) false := ⟨RX12, TX12, 32, tyX12, rfl, innX12, by decide, eg 988 (by decide +kernel) rfl, tyX12_ok, nmX12, rfl, rfl, fun _ => rfl⟩
theorem lc_X12_79 : Cond.constantLong RX12 79 (255) ∈ egood := eg 1094 (by decide +kernel) rfl
theorem gf_X12_81 : EGF RX12 81 8 2 := ⟨RX12, TX12, 32, rfl, innX12, by decide, eg 989 (by decide +kernel) rfl⟩
theorem gf_X12_7 : EGF RX12 7 8 3 := ⟨RX12, TX12, 32, rfl, innX12, by decide, eg 990 (by decide +kernel) rfl⟩
theorem pf_X12_81 : EPF RX12 81 8 2 (.int) false := ⟨RX12, TX12, 32, tyX12, rfl, innX12, by decide, eg 989 (by decide +kernel) rfl, tyX12_ok, nmX12, rfl, rfl, fun _ => rfl⟩
theorem gf_X12_84 : EGF RX12 84 8 4 := ⟨RX12, TX12, 32, rfl, innX12, by decide, eg 991 (by decide +kernel) rfl⟩
theorem cv_X12_87 : ECV RX12 87 mX12_here 0 := ⟨eg 1117 (by decide +kernel) rfl, eg 1119 (by decide +kernel) rfl, eg 27 (by decide +kernel) rfl, caX12_here⟩
theorem cs_X12_91 : ECS RX12 91 mX12_word 5 := ⟨eg 1110 (by decide +kernel) rfl, eg 1111 (by decide +kernel) rfl, caX12_word⟩
theorem cs_X12_95 : ECS RX12 95 mX12_keyword 1 := ⟨eg 1107 (by decide +kernel) rfl, eg 1108 (by decide +kernel) rfl, caX12_keyword⟩
theorem cv_X12_99 : ECV RX12 99 mX12_isLetter 0 := ⟨eg 1113 (by decide +kernel) rfl, eg 1115 (by decide +kernel) rfl, eg 26 (by decide +kernel) rfl, caX12_isLetter⟩
theorem pf_X12_84 : EPF RX12 84 8 4 (.int) false := ⟨RX12, TX12, 32, tyX12, rfl, innX12, by decide, eg 991 (by decide +kernel) rfl, tyX12_ok, nmX12, rfl, rfl, fun _ => rfl⟩
theorem cv_X12_103 : ECV RX12 103 mX12_readName 0 := ⟨eg 1125 (by decide +kernel) rfl, eg 1127 (by decide +kernel) rfl, eg 29 (by decide +kernel) rfl, caX12_readName⟩
theorem gf_X12_24 : EGF RX12 24 8 9 := ⟨RX12, TX12, 32, rfl, innX12, by decide, eg 996 (by decide +kernel) rfl⟩
theorem gf_X12_21 : EGF RX12 21 8 8 := ⟨RX12, TX12, 32, rfl, innX12, by decide, eg 995 (by decide +kernel) rfl⟩
theorem gf_X12_107 : EGF RX12 107 8 6 := ⟨RX12, TX12, 32, rfl, innX12, by decide, eg 993 (by decide +kernel) rfl⟩
theorem cv_X12_110 : ECV RX12 110 mX12_readKind 0 := ⟨eg 1103 (by decide +kernel) rfl, eg 1105 (by decide +kernel) rfl, eg 25 (by decide +kernel) rfl, caX12_readKind⟩
theorem gf_X12_17 : EGF RX12 17 8 7 := ⟨RX12, TX12, 32, rfl, innX12, by decide, eg 994 (by decide +kernel) rfl⟩
theorem gf_X12_27 : EGF RX12 27 8 10 := ⟨RX12, TX12, 32, rfl, innX12, by decide, eg 997 (by decide +kernel) rfl⟩
theorem cv_X12_113 : ECV RX12 113 mX12_readNames 3 := ⟨eg 1121 (by decide +kernel) rfl, eg 1123 (by decide +kernel) rfl, eg 28 (by decide +kernel) rfl, caX12_readNames⟩
theorem cv_X12_117 : ECV RX12 117 mX12_readExtra 2 := ⟨eg 1129 (by decide +kernel) rfl, eg 1131 (by decide +kernel) rfl, eg 30 (by decide +kernel) rfl, caX12_readExtra⟩
theorem cv_X12_121 : ECV RX12 121 mX12_readStatement 0 := ⟨eg 1099 (by decide +kernel) rfl, eg 1101 (by decide +kernel) rfl, eg 24 (by decide +kernel) rfl, caX12_readStatement⟩
theorem pf_X12_107 : EPF RX12 107 8 6 (.int) false := ⟨RX12, TX12, 32, tyX12, rfl, innX12, by decide, eg 993 (by decide +kernel) rfl, tyX12_ok, nmX12, rfl, rfl, fun _ => rfl⟩
theorem gf_X12_13 : EGF RX12 13 8 5 := ⟨RX12, TX12, 32, rfl, innX12, by decide, eg 992 (by decide +kernel) rfl⟩
theorem cv_X12_124 : ECV RX12 124 mX12_nameAt 2 := ⟨eg 1153 (by decide +kernel) rfl, eg 1155 (by decide +kernel) rfl, eg 33 (by decide +kernel) rfl, caX12_nameAt⟩
theorem cv_X12_128 : ECV RX12 128 mX12_before 3 := ⟨eg 1157 (by decide +kernel) rfl, eg 1159 (by decide +kernel) rfl, eg 34 (by decide +kernel) rfl, caX12_before⟩
theorem cv_X12_132 : ECV RX12 132 mX12_isClass 1 := ⟨eg 1177 (by decide +kernel) rfl, eg 1179 (by decide +kernel) rfl, eg 39 (by decide +kernel) rfl, caX12_isClass⟩
theorem cv_X12_136 : ECV RX12 136 mX12_isPermission 2 := ⟨eg 1188 (by decide +kernel) rfl, eg 1190 (by decide +kernel) rfl, eg 41 (by decide +kernel) rfl, caX12_isPermission⟩
theorem cv_X12_139 : ECV RX12 139 mX12_allDifferent 1 := ⟨eg 1161 (by decide +kernel) rfl, eg 1163 (by decide +kernel) rfl, eg 35 (by decide +kernel) rfl, caX12_allDifferent⟩
theorem cv_X12_142 : ECV RX12 142 mX12_isAttribute 1 := ⟨eg 1165 (by decide +kernel) rfl, eg 1167 (by decide +kernel) rfl, eg 36 (by decide +kernel) rfl, caX12_isAttribute⟩
theorem cv_X12_145 : ECV RX12 145 mX12_twice 1 := ⟨eg 1169 (by decide +kernel) rfl, eg 1171 (by decide +kernel) rfl, eg 37 (by decide +kernel) rfl, caX12_twice⟩
theorem cv_X12_148 : ECV RX12 148 mX12_isType 1 := ⟨eg 1173 (by decide +kernel) rfl, eg 1175 (by decide +kernel) rfl, eg 38 (by decide +kernel) rfl, caX12_isType⟩
theorem cs_X12_151 : ECS RX12 151 mX12_isSelf 1 := ⟨eg 1181 (by decide +kernel) rfl, eg 1182 (by decide +kernel) rfl, caX12_isSelf⟩
theorem cv_X12_154 : ECV RX12 154 mX12_arePermissions 3 := ⟨eg 1184 (by decide +kernel) rfl, eg 1186 (by decide +kernel) rfl, eg 40 (by decide +kernel) rfl, caX12_arePermissions⟩
theorem cv_X12_157 : ECV RX12 157 mX12_isWrong 1 := ⟨eg 1149 (by decide +kernel) rfl, eg 1151 (by decide +kernel) rfl, eg 32 (by decide +kernel) rfl, caX12_isWrong⟩
theorem cv_X12_160 : ECV RX12 160 mX12_typeStatement 1 := ⟨eg 1204 (by decide +kernel) rfl, eg 1206 (by decide +kernel) rfl, eg 45 (by decide +kernel) rfl, caX12_typeStatement⟩
theorem cv_X12_163 : ECV RX12 163 mX12_standsFor 2 := ⟨eg 1208 (by decide +kernel) rfl, eg 1210 (by decide +kernel) rfl, eg 46 (by decide +kernel) rfl, caX12_standsFor⟩
theorem cv_X12_166 : ECV RX12 166 mX12_shared 2 := ⟨eg 1196 (by decide +kernel) rfl, eg 1198 (by decide +kernel) rfl, eg 43 (by decide +kernel) rfl, caX12_shared⟩
theorem cv_X12_169 : ECV RX12 169 mX12_isAbout 3 := ⟨eg 1200 (by decide +kernel) rfl, eg 1202 (by decide +kernel) rfl, eg 44 (by decide +kernel) rfl, caX12_isAbout⟩
theorem gf_X12_51 : EGF RX12 51 8 20 := ⟨RX12, TX12, 32, rfl, innX12, by decide, eg 1007 (by decide +kernel) rfl⟩
theorem gf_X12_48 : EGF RX12 48 8 19 := ⟨RX12, TX12, 32, rfl, innX12, by decide, eg 1006 (by decide +kernel) rfl⟩
theorem pf_X12_172 : EPF RX12 172 8 12 (.int) false := ⟨RX12, TX12, 32, tyX12, rfl, innX12, by decide, eg 999 (by decide +kernel) rfl, tyX12_ok, nmX12, rfl, rfl, fun _ => rfl⟩
theorem pf_X12_175 : EPF RX12 175 8 13 (.int) false := ⟨RX12, TX12, 32, tyX12, rfl, innX12, by decide, eg 1000 (by decide +kernel) rfl, tyX12_ok, nmX12, rfl, rfl, fun _ => rfl⟩
theorem gf_X12_39 : EGF RX12 39 8 16 := ⟨RX12, TX12, 32, rfl, innX12, by decide, eg 1003 (by decide +kernel) rfl⟩
theorem gf_X12_42 : EGF RX12 42 8 17 := ⟨RX12, TX12, 32, rfl, innX12, by decide, eg 1004 (by decide +kernel) rfl⟩
theorem gf_X12_45 : EGF RX12 45 8 18 := ⟨RX12, TX12, 32, rfl, innX12, by decide, eg 1005 (by decide +kernel) rfl⟩
theorem gf_X12_172 : EGF RX12 172 8 12 := ⟨RX12, TX12, 32, rfl, innX12, by decide, eg 999 (by decide +kernel) rfl⟩
theorem gf_X12_36 : EGF RX12 36 8 15 := ⟨RX12, TX12, 32, rfl, innX12, by decide, eg 1002 (by decide +kernel) rfl⟩
theorem gf_X12_175 : EGF RX12 175 8 13 := ⟨RX12, TX12, 32, rfl, innX12, by decide, eg 1000 (by decide +kernel) rfl⟩
theorem gf_X12_33 : EGF RX12 33 8 14 := ⟨RX12, TX12, 32, rfl, innX12, by decide, eg 1001 (by decide +kernel) rfl⟩
theorem cv_X12_178 : ECV RX12 178 mX12_classNumber 1 := ⟨eg 1220 (by decide +kernel) rfl, eg 1222 (by decide +kernel) rfl, eg 49 (by decide +kernel) rfl, caX12_classNumber⟩
theorem cv_X12_181 : ECV RX12 181 mX12_maskOf 3 := ⟨eg 1224 (by decide +kernel) rfl, eg 1226 (by decide +kernel) rfl, eg 50 (by decide +kernel) rfl, caX12_maskOf⟩
theorem cv_X12_184 : ECV RX12 184 mX12_typeNumber 1 := ⟨eg 1228 (by decide +kernel) rfl, eg 1230 (by decide +kernel) rfl, eg 51 (by decide +kernel) rfl, caX12_typeNumber⟩
theorem cv_X12_187 : ECV RX12 187 mX12_firstWrong 0 := ⟨eg 1145 (by decide +kernel) rfl, eg 1147 (by decide +kernel) rfl, eg 31 (by decide +kernel) rfl, caX12_firstWrong⟩
theorem cv_X12_190 : ECV RX12 190 mX12_firstAgainst 0 := ⟨eg 1192 (by decide +kernel) rfl, eg 1194 (by decide +kernel) rfl, eg 42 (by decide +kernel) rfl, caX12_firstAgainst⟩
theorem cv_X12_193 : ECV RX12 193 mX12_begin 0 := ⟨eg 1212 (by decide +kernel) rfl, eg 1214 (by decide +kernel) rfl, eg 47 (by decide +kernel) rfl, caX12_begin⟩
theorem cv_X12_196 : ECV RX12 196 mX12_put 1 := ⟨eg 1216 (by decide +kernel) rfl, eg 1218 (by decide +kernel) rfl, eg 48 (by decide +kernel) rfl, caX12_put⟩
theorem pf_X12_200 : EPF RX12 200 8 21 (.int) false := ⟨RX12, TX12, 32, tyX12, rfl, innX12, by decide, eg 1008 (by decide +kernel) rfl, tyX12_ok, nmX12, rfl, rfl, fun _ => rfl⟩
theorem gf_X12_30 : EGF RX12 30 8 11 := ⟨RX12, TX12, 32, rfl, innX12, by decide, eg 998 (by decide +kernel) rfl⟩
theorem cv_X12_203 : ECV RX12 203 mX12_isThere 3 := ⟨eg 1240 (by decide +kernel) rfl, eg 1242 (by decide +kernel) rfl, eg 52 (by decide +kernel) rfl, caX12_isThere⟩
theorem gf_X12_200 : EGF RX12 200 8 21 := ⟨RX12, TX12, 32, rfl, innX12, by decide, eg 1008 (by decide +kernel) rfl⟩
theorem gf_X12_54 : EGF RX12 54 8 22 := ⟨RX12, TX12, 32, rfl, innX12, by decide, eg 1009 (by decide +kernel) rfl⟩
theorem cv_X12_206 : ECV RX12 206 mX12_worked 3 := ⟨eg 1244 (by decide +kernel) rfl, eg 1246 (by decide +kernel) rfl, eg 53 (by decide +kernel) rfl, caX12_worked⟩
theorem gf_X12_209 : EGF RX12 209 8 24 := ⟨RX12, TX12, 32, rfl, innX12, by decide, eg 1011 (by decide +kernel) rfl⟩
theorem pf_X12_209 : EPF RX12 209 8 24 (.int) false := ⟨RX12, TX12, 32, tyX12, rfl, innX12, by decide, eg 1011 (by decide +kernel) rfl, tyX12_ok, nmX12, rfl, rfl, fun _ => rfl⟩
theorem gf_X12_57 : EGF RX12 57 8 23 := ⟨RX12, TX12, 32, rfl, innX12, by decide, eg 1010 (by decide +kernel) rfl⟩
theorem gf_X12_212 : EGF RX12 212 8 25 := ⟨RX12, TX12, 32, rfl, innX12, by decide, eg 1012 (by decide +kernel) rfl⟩
theorem pf_X12_212 : EPF RX12 212 8 25 (.int) false := ⟨RX12, TX12, 32, tyX12, rfl, innX12, by decide, eg 1012 (by decide +kernel) rfl, tyX12_ok, nmX12, rfl, rfl, fun _ => rfl⟩
theorem gf_X12_73 : EGF RX12 73 8 0 := ⟨RX12, TX12, 32, rfl, innX12, by decide, eg 987 (by decide +kernel) rfl⟩
theorem gf_X12_66 : EGF RX12 66 8 30 := ⟨RX12, TX12, 32, rfl, innX12, by decide, eg 1017 (by decide +kernel) rfl⟩
theorem gf_X12_70 : EGF RX12 70 8 31 := ⟨RX12, TX12, 32, rfl, innX12, by decide, eg 1018 (by decide +kernel) rfl⟩
theorem cv_X12_215 : ECV RX12 215 mX12_flows 2 := ⟨eg 1256 (by decide +kernel) rfl, eg 1258 (by decide +kernel) rfl, eg 54 (by decide +kernel) rfl, caX12_flows⟩
theorem gf_X12_60 : EGF RX12 60 8 27 := ⟨RX12, TX12, 32, rfl, innX12, by decide, eg 1014 (by decide +kernel) rfl⟩
theorem gf_X12_218 : EGF RX12 218 8 26 := ⟨RX12, TX12, 32, rfl, innX12, by decide, eg 1013 (by decide +kernel) rfl⟩
theorem pf_X12_218 : EPF RX12 218 8 26 (.int) false := ⟨RX12, TX12, 32, tyX12, rfl, innX12, by decide, eg 1013 (by decide +kernel) rfl, tyX12_ok, nmX12, rfl, rfl, fun _ => rfl⟩
theorem cv_X12_221 : ECV RX12 221 mX12_say 1 := ⟨eg 1268 (by decide +kernel) rfl, eg 1270 (by decide +kernel) rfl, eg 55 (by decide +kernel) rfl, caX12_say⟩
theorem gf_X12_224 : EGF RX12 224 8 28 := ⟨RX12, TX12, 32, rfl, innX12, by decide, eg 1015 (by decide +kernel) rfl⟩
theorem gf_X12_63 : EGF RX12 63 8 29 := ⟨RX12, TX12, 32, rfl, innX12, by decide, eg 1016 (by decide +kernel) rfl⟩
theorem pf_X12_224 : EPF RX12 224 8 28 (.int) false := ⟨RX12, TX12, 32, tyX12, rfl, innX12, by decide, eg 1015 (by decide +kernel) rfl, tyX12_ok, nmX12, rfl, rfl, fun _ => rfl⟩
theorem cs_X12_227 : ECS RX12 227 mX12_in 3 := ⟨eg 1288 (by decide +kernel) rfl, eg 1289 (by decide +kernel) rfl, caX12_in⟩
theorem cv_X12_230 : ECV RX12 230 mX12_wellFormed 0 := ⟨eg 1284 (by decide +kernel) rfl, eg 1286 (by decide +kernel) rfl, eg 56 (by decide +kernel) rfl, caX12_wellFormed⟩
theorem lc_J11_110 : Cond.constant RJ11 110 (55232) ∈ egood := eg 605 (by decide +kernel) rfl
theorem lc_J11_76 : Cond.constant RJ11 76 (56320) ∈ egood := eg 609 (by decide +kernel) rfl
theorem gc_Jx29ce0_7 : Cond.fieldLink RJx29ce0 7 "java/lang/Enum" "ordinal" "I" ∈ egood := eg 1301 (by decide +kernel) rfl
theorem gc_J0_9 : Cond.fieldLink RJ0 9 "java/lang/String" "value" "[B" ∈ egood := eg 1295 (by decide +kernel) rfl
theorem cv_J0_335 : ECV RJ0 335 mJ0_coder_7d493 0 := ⟨eg 463 (by decide +kernel) rfl, eg 464 (by decide +kernel) rfl, eg 465 (by decide +kernel) rfl, caJ0_coder_7d493⟩
theorem cv_J0_492 : ECV RJ0 492 mJ0_isLatin1_aae02 0 := ⟨eg 477 (by decide +kernel) rfl, eg 478 (by decide +kernel) rfl, eg 479 (by decide +kernel) rfl, caJ0_isLatin1_aae02⟩
theorem cs_J0_495 : ECS RJ0 495 mJ1_charAt_3b067 2 := ⟨eg 481 (by decide +kernel) rfl, eg 482 (by decide +kernel) rfl, caJ1_charAt_3b067⟩
theorem cs_J0_498 : ECS RJ0 498 mJ2_charAt_3b067 2 := ⟨eg 492 (by decide +kernel) rfl, eg 493 (by decide +kernel) rfl, caJ2_charAt_3b067⟩
theorem cv_J0_633 : ECV RJ0 633 mJ0_indexOf_7cf53 2 := ⟨eg 559 (by decide +kernel) rfl, eg 560 (by decide +kernel) rfl, eg 561 (by decide +kernel) rfl, caJ0_indexOf_7cf53⟩
theorem cv_J0_505 : ECV RJ0 505 mJ0_length_8abf5 0 := ⟨eg 563 (by decide +kernel) rfl, eg 460 (by decide +kernel) rfl, eg 461 (by decide +kernel) rfl, caJ0_length_8abf5⟩
theorem cs_J0_637 : ECS RJ0 637 mJ1_indexOf_4cfef 4 := ⟨eg 564 (by decide +kernel) rfl, eg 565 (by decide +kernel) rfl, caJ1_indexOf_4cfef⟩
theorem cs_J0_640 : ECS RJ0 640 mJ2_indexOf_4cfef 4 := ⟨eg 575 (by decide +kernel) rfl, eg 576 (by decide +kernel) rfl, caJ2_indexOf_4cfef⟩
theorem gz_J0_38 : Cond.fieldLink RJ0 38 "java/lang/String" "COMPACT_STRINGS" "Z" ∈ egood := eg 467 (by decide +kernel) rfl
theorem gc_J0_15 : Cond.fieldLink RJ0 15 "java/lang/String" "coder" "B" ∈ egood := eg 1296 (by decide +kernel) rfl
theorem gz_J0_1053 : Cond.fieldLink RJ0 1053 "jdk/internal/util/Preconditions" "SIOOBE_FORMATTER" "Ljava/util/function/BiFunction;" ∈ egood := eg 487 (by decide +kernel) rfl
theorem cs_J0_1059 : ECS RJ0 1059 mJ3_checkIndex_8e157 3 := ⟨eg 489 (by decide +kernel) rfl, eg 490 (by decide +kernel) rfl, caJ3_checkIndex_8e157⟩
theorem cs_J0_1062 : ECS RJ0 1062 mJ3_checkFromToIndex_8c36e 4 := ⟨eg 590 (by decide +kernel) rfl, eg 591 (by decide +kernel) rfl, caJ3_checkFromToIndex_8c36e⟩
theorem cs_J1_9 : ECS RJ1 9 mJ0_checkIndex_df160 2 := ⟨eg 484 (by decide +kernel) rfl, eg 485 (by decide +kernel) rfl, caJ0_checkIndex_df160⟩
theorem cs_J1_88 : ECS RJ1 88 mJ1_canEncode_9a6ad 1 := ⟨eg 567 (by decide +kernel) rfl, eg 568 (by decide +kernel) rfl, caJ1_canEncode_9a6ad⟩
theorem cs_J1_92 : ECS RJ1 92 mJ9_max_7cf53 2 := ⟨eg 570 (by decide +kernel) rfl, eg 161 (by decide +kernel) rfl, caJ9_max_7cf53⟩
theorem cs_J1_38 : ECS RJ1 38 mJ9_min_7cf53 2 := ⟨eg 571 (by decide +kernel) rfl, eg 158 (by decide +kernel) rfl, caJ9_min_7cf53⟩
theorem cs_J1_95 : ECS RJ1 95 mJ1_indexOfChar_4cfef 4 := ⟨eg 572 (by decide +kernel) rfl, eg 573 (by decide +kernel) rfl, caJ1_indexOfChar_4cfef⟩
theorem gz_J2_44 : Cond.fieldLink RJ2 44 "java/lang/StringUTF16" "$assertionsDisabled" "Z" ∈ egood := eg 505 (by decide +kernel) rfl
theorem cs_J2_48 : ECS RJ2 48 mJ2_length_9d52b 1 := ⟨eg 498 (by decide +kernel) rfl, eg 499 (by decide +kernel) rfl, caJ2_length_9d52b⟩
theorem gz_J2_59 : Cond.fieldLink RJ2 59 "java/lang/StringUTF16" "HI_BYTE_SHIFT" "I" ∈ egood := eg 507 (by decide +kernel) rfl
theorem gz_J2_63 : Cond.fieldLink RJ2 63 "java/lang/StringUTF16" "LO_BYTE_SHIFT" "I" ∈ egood := eg 509 (by decide +kernel) rfl
theorem cs_J2_224 : ECS RJ2 224 mJ9_max_7cf53 2 := ⟨eg 578 (by decide +kernel) rfl, eg 161 (by decide +kernel) rfl, caJ9_max_7cf53⟩
theorem cs_J2_183 : ECS RJ2 183 mJ9_min_7cf53 2 := ⟨eg 579 (by decide +kernel) rfl, eg 158 (by decide +kernel) rfl, caJ9_min_7cf53⟩
theorem lc_J2_227 : Cond.constant RJ2 227 (65536) ∈ egood := eg 580 (by decide +kernel) rfl
theorem cs_J2_228 : ECS RJ2 228 mJ2_indexOfChar_4cfef 4 := ⟨eg 581 (by decide +kernel) rfl, eg 582 (by decide +kernel) rfl, caJ2_indexOfChar_4cfef⟩
theorem cs_J2_232 : ECS RJ2 232 mJ2_indexOfSupplementary_4cfef 4 := ⟨eg 596 (by decide +kernel) rfl, eg 597 (by decide +kernel) rfl, caJ2_indexOfSupplementary_4cfef⟩
theorem cs_J2_96 : ECS RJ2 96 mJ2_checkBoundsBeginEnd_d044e 3 := ⟨eg 584 (by decide +kernel) rfl, eg 585 (by decide +kernel) rfl, caJ2_checkBoundsBeginEnd_d044e⟩
theorem cs_J2_244 : ECS RJ2 244 mJ2_indexOfCharUnsafe_4cfef 4 := ⟨eg 593 (by decide +kernel) rfl, eg 594 (by decide +kernel) rfl, caJ2_indexOfCharUnsafe_4cfef⟩
theorem cs_J2_71 : ECS RJ2 71 mJ2_getChar_3b067 2 := ⟨eg 502 (by decide +kernel) rfl, eg 503 (by decide +kernel) rfl, caJ2_getChar_3b067⟩
theorem cs_J2_164 : ECS RJ2 164 mJ11_isValidCodePoint_9a6ad 1 := ⟨eg 599 (by decide +kernel) rfl, eg 600 (by decide +kernel) rfl, caJ11_isValidCodePoint_9a6ad⟩
theorem cs_J2_157 : ECS RJ2 157 mJ11_highSurrogate_5068e 1 := ⟨eg 602 (by decide +kernel) rfl, eg 603 (by decide +kernel) rfl, caJ11_highSurrogate_5068e⟩
theorem cs_J2_161 : ECS RJ2 161 mJ11_lowSurrogate_5068e 1 := ⟨eg 606 (by decide +kernel) rfl, eg 607 (by decide +kernel) rfl, caJ11_lowSurrogate_5068e⟩
theorem cs_J2_67 : ECS RJ2 67 mJ2_checkIndex_2214a 2 := ⟨eg 495 (by decide +kernel) rfl, eg 496 (by decide +kernel) rfl, caJ2_checkIndex_2214a⟩
theorem cs_J2_414 : ECS RJ2 414 mJ0_checkIndex_df160 2 := ⟨eg 501 (by decide +kernel) rfl, eg 485 (by decide +kernel) rfl, caJ0_checkIndex_df160⟩
theorem cs_J2_241 : ECS RJ2 241 mJ0_checkBoundsBeginEnd_23922 3 := ⟨eg 587 (by decide +kernel) rfl, eg 588 (by decide +kernel) rfl, caJ0_checkBoundsBeginEnd_23922⟩
theorem cv_L_7 : ECV RL 7 mX11_add 0 := ⟨eg 437 (by decide +kernel) rfl, eg 438 (by decide +kernel) rfl, eg 439 (by decide +kernel) rfl, caX11_add⟩
theorem cv_L_17 : ECV RL 17 mX11_accept 0 := ⟨eg 722 (by decide +kernel) rfl, eg 723 (by decide +kernel) rfl, eg 724 (by decide +kernel) rfl, caX11_accept⟩
theorem cv_L_20 : ECV RL 20 mX11_may 3 := ⟨eg 904 (by decide +kernel) rfl, eg 905 (by decide +kernel) rfl, eg 906 (by decide +kernel) rfl, caX11_may⟩
theorem cv_L_26 : ECV RL 26 mX11_read 0 := ⟨eg 946 (by decide +kernel) rfl, eg 947 (by decide +kernel) rfl, eg 948 (by decide +kernel) rfl, caX11_read⟩
theorem ac_int : Cond.arrayClass .int ∈ egood := eg 106 (by decide +kernel) rfl
theorem ac_long : Cond.arrayClass .long ∈ egood := eg 1292 (by decide +kernel) rfl
theorem ac_char : Cond.arrayClass .char ∈ egood := eg 1084 (by decide +kernel) rfl
theorem ac_boolean : Cond.arrayClass .boolean ∈ egood := eg 1085 (by decide +kernel) rfl
theorem ob_i : Cond.instanceMethod objectInit ∈ egood := eg 91 (by decide +kernel) rfl
theorem ob_c : Cond.code objectInit ⟨#[0xb1]⟩ 1 none ∈ egood := eg 92 (by decide +kernel) rfl

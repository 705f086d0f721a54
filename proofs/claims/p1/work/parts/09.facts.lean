/-! ===== methods, and what is known of them ===== -/
abbrev Y_E_init : et_Y := (⟨"EqualTerms", "<init>", "()V"⟩, prog_1_method_1_code, 1, none, [])
set_option maxRecDepth 100000 in
theorem mI_E_init : et_MI Y_E_init := ⟨et_in 73 rfl rfl, et_in 52 (by decide +kernel) (by decide +kernel), et_in 72 (by decide +kernel) (by decide +kernel), by decide, by decide, by decide, rfl, rfl, rfl⟩
abbrev Y_O_init : et_Y := (⟨"java/lang/Object", "<init>", "()V"⟩, object_method_1_code, 1, none, [])
abbrev Y_T_init : et_Y := (⟨"EqualTerms$Text", "<init>", "()V"⟩, prog_7_method_1_code, 1, none, [])
set_option maxRecDepth 100000 in
theorem mI_T_init : et_MI Y_T_init := ⟨et_in 81 rfl rfl, et_in 53 (by decide +kernel) (by decide +kernel), et_in 80 (by decide +kernel) (by decide +kernel), by decide, by decide, by decide, rfl, rfl, rfl⟩
abbrev Y_G_init : et_Y := (⟨"EqualTerms$Graph", "<init>", "()V"⟩, prog_3_method_1_code, 1, none, [])
set_option maxRecDepth 100000 in
theorem mI_G_init : et_MI Y_G_init := ⟨et_in 108 rfl rfl, et_in 54 (by decide +kernel) (by decide +kernel), et_in 107 (by decide +kernel) (by decide +kernel), by decide, by decide, by decide, rfl, rfl, rfl⟩
abbrev Y_K_init : et_Y := (⟨"EqualTerms$Walk", "<init>", "(LEqualTerms$Graph;)V"⟩, prog_8_method_1_code, 2, none, [])
set_option maxRecDepth 100000 in
theorem mI_K_init : et_MI Y_K_init := ⟨et_in 153 rfl rfl, et_in 55 (by decide +kernel) (by decide +kernel), et_in 152 (by decide +kernel) (by decide +kernel), by decide, by decide, by decide, rfl, rfl, rfl⟩
abbrev Y_R_init : et_Y := (⟨"EqualTerms$Round", "<init>", "(LEqualTerms$Graph;LEqualTerms$Walk;)V"⟩, prog_4_method_1_code, 3, none, [])
set_option maxRecDepth 100000 in
theorem mI_R_init : et_MI Y_R_init := ⟨et_in 170 rfl rfl, et_in 56 (by decide +kernel) (by decide +kernel), et_in 169 (by decide +kernel) (by decide +kernel), by decide, by decide, by decide, rfl, rfl, rfl⟩
abbrev Y_C_init : et_Y := (⟨"EqualTerms$Cheapest", "<init>", "(LEqualTerms$Graph;)V"⟩, prog_2_method_1_code, 2, none, [])
set_option maxRecDepth 100000 in
theorem mI_C_init : et_MI Y_C_init := ⟨et_in 196 rfl rfl, et_in 57 (by decide +kernel) (by decide +kernel), et_in 195 (by decide +kernel) (by decide +kernel), by decide, by decide, by decide, rfl, rfl, rfl⟩
abbrev Y_A_fill_II : et_Y := (⟨"java/util/Arrays", "fill", "([II)V"⟩, prog_20_method_103_code, 4, none, [])
set_option maxRecDepth 100000 in
theorem mS_A_fill_II : et_MS Y_A_fill_II := ⟨et_in 202 rfl rfl, et_in 58 (by decide +kernel) (by decide +kernel), et_in 201 (by decide +kernel) (by decide +kernel), by decide, by decide, by decide⟩
abbrev Y_E_type : et_Y := (⟨"EqualTerms", "type", "(JI)I"⟩, prog_1_method_2_code, 4, (some .int), [])
set_option maxRecDepth 100000 in
theorem mV_E_type : et_MV Y_E_type := ⟨et_in 254 rfl rfl, et_in 52 (by decide +kernel) (by decide +kernel), et_in 252 (by decide +kernel) (by decide +kernel), et_in 253 (by decide +kernel) (by decide +kernel), by decide, by decide, by decide⟩
abbrev Y_T_append : et_Y := (⟨"EqualTerms$Text", "append", "(JI)I"⟩, prog_7_method_2_code, 6, (some .int), [])
set_option maxRecDepth 100000 in
theorem mV_T_append : et_MV Y_T_append := ⟨et_in 258 rfl rfl, et_in 53 (by decide +kernel) (by decide +kernel), et_in 256 (by decide +kernel) (by decide +kernel), et_in 257 (by decide +kernel) (by decide +kernel), by decide, by decide, by decide⟩
abbrev Y_T_byteAt : et_Y := (⟨"EqualTerms$Text", "byteAt", "(JI)I"⟩, prog_7_method_3_code, 3, (some .int), [])
set_option maxRecDepth 100000 in
theorem mS_T_byteAt : et_MS Y_T_byteAt := ⟨et_in 261 rfl rfl, et_in 53 (by decide +kernel) (by decide +kernel), et_in 260 (by decide +kernel) (by decide +kernel), by decide, by decide, by decide⟩
abbrev Y_E_wipe : et_Y := (⟨"EqualTerms", "wipe", "()I"⟩, prog_1_method_3_code, 2, (some .int), [])
set_option maxRecDepth 100000 in
theorem mV_E_wipe : et_MV Y_E_wipe := ⟨et_in 266 rfl rfl, et_in 52 (by decide +kernel) (by decide +kernel), et_in 264 (by decide +kernel) (by decide +kernel), et_in 265 (by decide +kernel) (by decide +kernel), by decide, by decide, by decide⟩
abbrev Y_T_clear : et_Y := (⟨"EqualTerms$Text", "clear", "()V"⟩, prog_7_method_4_code, 1, none, [])
set_option maxRecDepth 100000 in
theorem mV_T_clear : et_MV Y_T_clear := ⟨et_in 270 rfl rfl, et_in 53 (by decide +kernel) (by decide +kernel), et_in 268 (by decide +kernel) (by decide +kernel), et_in 269 (by decide +kernel) (by decide +kernel), by decide, by decide, by decide⟩
abbrev Y_E_character : et_Y := (⟨"EqualTerms", "character", "(I)I"⟩, prog_1_method_4_code, 2, (some .int), [])
set_option maxRecDepth 100000 in
theorem mV_E_character : et_MV Y_E_character := ⟨et_in 274 rfl rfl, et_in 52 (by decide +kernel) (by decide +kernel), et_in 272 (by decide +kernel) (by decide +kernel), et_in 273 (by decide +kernel) (by decide +kernel), by decide, by decide, by decide⟩
abbrev Y_E_place : et_Y := (⟨"EqualTerms", "place", "()I"⟩, prog_1_method_5_code, 1, (some .int), [])
set_option maxRecDepth 100000 in
theorem mV_E_place : et_MV Y_E_place := ⟨et_in 278 rfl rfl, et_in 52 (by decide +kernel) (by decide +kernel), et_in 276 (by decide +kernel) (by decide +kernel), et_in 277 (by decide +kernel) (by decide +kernel), by decide, by decide, by decide⟩
abbrev Y_E_nodes : et_Y := (⟨"EqualTerms", "nodes", "()I"⟩, prog_1_method_12_code, 1, (some .int), [])
set_option maxRecDepth 100000 in
theorem mV_E_nodes : et_MV Y_E_nodes := ⟨et_in 282 rfl rfl, et_in 52 (by decide +kernel) (by decide +kernel), et_in 280 (by decide +kernel) (by decide +kernel), et_in 281 (by decide +kernel) (by decide +kernel), by decide, by decide, by decide⟩
abbrev Y_E_classes : et_Y := (⟨"EqualTerms", "classes", "()I"⟩, prog_1_method_13_code, 1, (some .int), [])
set_option maxRecDepth 100000 in
theorem mV_E_classes : et_MV Y_E_classes := ⟨et_in 286 rfl rfl, et_in 52 (by decide +kernel) (by decide +kernel), et_in 284 (by decide +kernel) (by decide +kernel), et_in 285 (by decide +kernel) (by decide +kernel), by decide, by decide, by decide⟩
abbrev Y_L_rule : et_Y := (⟨"EqualTermsLaw", "rule", "(LEqualTerms;[J)I"⟩, method_3_code, 3, (some .int), [(0, 8, 11, 13), (0, 8, 14, 15)])
set_option maxRecDepth 100000 in
theorem mS_L_rule : et_MS Y_L_rule := ⟨et_in 289 rfl rfl, et_in 51 (by decide +kernel) (by decide +kernel), et_in 288 (by decide +kernel) (by decide +kernel), by decide, by decide, by decide⟩
abbrev Y_E_rule : et_Y := (⟨"EqualTerms", "rule", "()I"⟩, prog_1_method_6_code, 1, (some .int), [])
set_option maxRecDepth 100000 in
theorem mV_E_rule : et_MV Y_E_rule := ⟨et_in 295 rfl rfl, et_in 52 (by decide +kernel) (by decide +kernel), et_in 293 (by decide +kernel) (by decide +kernel), et_in 294 (by decide +kernel) (by decide +kernel), by decide, by decide, by decide⟩
abbrev Y_T_isRule : et_Y := (⟨"EqualTerms$Text", "isRule", "()Z"⟩, prog_7_method_8_code, 1, (some .boolean), [])
set_option maxRecDepth 100000 in
theorem mV_T_isRule : et_MV Y_T_isRule := ⟨et_in 299 rfl rfl, et_in 53 (by decide +kernel) (by decide +kernel), et_in 297 (by decide +kernel) (by decide +kernel), et_in 298 (by decide +kernel) (by decide +kernel), by decide, by decide, by decide⟩
abbrev Y_T_firstWrong : et_Y := (⟨"EqualTerms$Text", "firstWrong", "(ZZ)I"⟩, prog_7_method_10_code, 6, (some .int), [])
set_option maxRecDepth 100000 in
theorem mV_T_firstWrong : et_MV Y_T_firstWrong := ⟨et_in 303 rfl rfl, et_in 53 (by decide +kernel) (by decide +kernel), et_in 302 (by decide +kernel) (by decide +kernel), et_in 0 (by decide +kernel) (by decide +kernel), by decide, by decide, by decide⟩
abbrev Y_T_partsInRule : et_Y := (⟨"EqualTerms$Text", "partsInRule", "(I)I"⟩, prog_7_method_11_code, 3, (some .int), [])
set_option maxRecDepth 100000 in
theorem mV_T_partsInRule : et_MV Y_T_partsInRule := ⟨et_in 307 rfl rfl, et_in 53 (by decide +kernel) (by decide +kernel), et_in 306 (by decide +kernel) (by decide +kernel), et_in 1 (by decide +kernel) (by decide +kernel), by decide, by decide, by decide⟩
abbrev Y_S_isVariable : et_Y := (⟨"EqualTerms$Signs", "isVariable", "(I)Z"⟩, prog_6_method_3_code, 1, (some .boolean), [])
set_option maxRecDepth 100000 in
theorem mS_S_isVariable : et_MS Y_S_isVariable := ⟨et_in 310 rfl rfl, et_in 60 (by decide +kernel) (by decide +kernel), et_in 309 (by decide +kernel) (by decide +kernel), by decide, by decide, by decide⟩
abbrev Y_T_inFirstSide : et_Y := (⟨"EqualTerms$Text", "inFirstSide", "(I)Z"⟩, prog_7_method_12_code, 3, (some .boolean), [])
set_option maxRecDepth 100000 in
theorem mV_T_inFirstSide : et_MV Y_T_inFirstSide := ⟨et_in 314 rfl rfl, et_in 53 (by decide +kernel) (by decide +kernel), et_in 313 (by decide +kernel) (by decide +kernel), et_in 2 (by decide +kernel) (by decide +kernel), by decide, by decide, by decide⟩
abbrev Y_S_partsInPattern : et_Y := (⟨"EqualTerms$Signs", "partsInPattern", "(I)I"⟩, prog_6_method_4_code, 1, (some .int), [])
set_option maxRecDepth 100000 in
theorem mS_S_partsInPattern : et_MS Y_S_partsInPattern := ⟨et_in 317 rfl rfl, et_in 60 (by decide +kernel) (by decide +kernel), et_in 316 (by decide +kernel) (by decide +kernel), by decide, by decide, by decide⟩
abbrev Y_S_parts : et_Y := (⟨"EqualTerms$Signs", "parts", "(I)I"⟩, prog_6_method_2_code, 1, (some .int), [])
set_option maxRecDepth 100000 in
theorem mS_S_parts : et_MS Y_S_parts := ⟨et_in 321 rfl rfl, et_in 60 (by decide +kernel) (by decide +kernel), et_in 320 (by decide +kernel) (by decide +kernel), by decide, by decide, by decide⟩
abbrev Y_T_noteWrong : et_Y := (⟨"EqualTerms$Text", "noteWrong", "(I)Z"⟩, prog_7_method_9_code, 2, (some .boolean), [])
set_option maxRecDepth 100000 in
theorem mV_T_noteWrong : et_MV Y_T_noteWrong := ⟨et_in 326 rfl rfl, et_in 53 (by decide +kernel) (by decide +kernel), et_in 325 (by decide +kernel) (by decide +kernel), et_in 3 (by decide +kernel) (by decide +kernel), by decide, by decide, by decide⟩
abbrev Y_U_init : et_Y := (⟨"EqualTerms$Rule", "<init>", "(LEqualTerms$Text;)V"⟩, prog_5_method_1_code, 6, none, [])
set_option maxRecDepth 100000 in
theorem mI_U_init : et_MI Y_U_init := ⟨et_in 413 rfl rfl, et_in 66 (by decide +kernel) (by decide +kernel), et_in 412 (by decide +kernel) (by decide +kernel), by decide, by decide, by decide, rfl, rfl, rfl⟩
abbrev Y_A_copyOf : et_Y := (⟨"java/util/Arrays", "copyOf", "([II)[I"⟩, prog_20_method_123_code, 3, (some (.array .int)), [])
set_option maxRecDepth 100000 in
theorem mS_A_copyOf : et_MS Y_A_copyOf := ⟨et_in 417 rfl rfl, et_in 58 (by decide +kernel) (by decide +kernel), et_in 416 (by decide +kernel) (by decide +kernel), by decide, by decide, by decide⟩
abbrev Y_H_min : et_Y := (⟨"java/lang/Math", "min", "(II)I"⟩, prog_15_method_69_code, 2, (some .int), [])
set_option maxRecDepth 100000 in
theorem mS_H_min : et_MS Y_H_min := ⟨et_in 427 rfl rfl, et_in 67 (by decide +kernel) (by decide +kernel), et_in 426 (by decide +kernel) (by decide +kernel), by decide, by decide, by decide⟩
abbrev Y_U_endOfPattern : et_Y := (⟨"EqualTerms$Rule", "endOfPattern", "([II)I"⟩, prog_5_method_2_code, 4, (some .int), [])
set_option maxRecDepth 100000 in
theorem mS_U_endOfPattern : et_MS Y_U_endOfPattern := ⟨et_in 435 rfl rfl, et_in 66 (by decide +kernel) (by decide +kernel), et_in 434 (by decide +kernel) (by decide +kernel), by decide, by decide, by decide⟩
abbrev Y_L_add : et_Y := (⟨"EqualTermsLaw", "add", "(LEqualTerms;[J)I"⟩, method_4_code, 3, (some .int), [(0, 8, 11, 13), (0, 8, 14, 15)])
set_option maxRecDepth 100000 in
theorem mS_L_add : et_MS Y_L_add := ⟨et_in 457 rfl rfl, et_in 51 (by decide +kernel) (by decide +kernel), et_in 456 (by decide +kernel) (by decide +kernel), by decide, by decide, by decide⟩
abbrev Y_E_add : et_Y := (⟨"EqualTerms", "add", "()I"⟩, prog_1_method_7_code, 3, (some .int), [])
set_option maxRecDepth 100000 in
theorem mV_E_add : et_MV Y_E_add := ⟨et_in 461 rfl rfl, et_in 52 (by decide +kernel) (by decide +kernel), et_in 459 (by decide +kernel) (by decide +kernel), et_in 460 (by decide +kernel) (by decide +kernel), by decide, by decide, by decide⟩
abbrev Y_E_demandTerm : et_Y := (⟨"EqualTerms", "demandTerm", "()V"⟩, prog_1_method_17_code, 1, none, [])
set_option maxRecDepth 100000 in
theorem mV_E_demandTerm : et_MV Y_E_demandTerm := ⟨et_in 465 rfl rfl, et_in 52 (by decide +kernel) (by decide +kernel), et_in 464 (by decide +kernel) (by decide +kernel), et_in 5 (by decide +kernel) (by decide +kernel), by decide, by decide, by decide⟩
abbrev Y_T_isTerm : et_Y := (⟨"EqualTerms$Text", "isTerm", "()Z"⟩, prog_7_method_6_code, 1, (some .boolean), [])
set_option maxRecDepth 100000 in
theorem mV_T_isTerm : et_MV Y_T_isTerm := ⟨et_in 469 rfl rfl, et_in 53 (by decide +kernel) (by decide +kernel), et_in 467 (by decide +kernel) (by decide +kernel), et_in 468 (by decide +kernel) (by decide +kernel), by decide, by decide, by decide⟩
abbrev Y_K_classOf : et_Y := (⟨"EqualTerms$Walk", "classOf", "([IIIZ)I"⟩, prog_8_method_2_code, 11, (some .int), [])
set_option maxRecDepth 100000 in
theorem mV_K_classOf : et_MV Y_K_classOf := ⟨et_in 474 rfl rfl, et_in 55 (by decide +kernel) (by decide +kernel), et_in 472 (by decide +kernel) (by decide +kernel), et_in 473 (by decide +kernel) (by decide +kernel), by decide, by decide, by decide⟩
abbrev Y_G_homeOf : et_Y := (⟨"EqualTerms$Graph", "homeOf", "(IIIZ)I"⟩, prog_3_method_2_code, 6, (some .int), [])
set_option maxRecDepth 100000 in
theorem mV_G_homeOf : et_MV Y_G_homeOf := ⟨et_in 480 rfl rfl, et_in 54 (by decide +kernel) (by decide +kernel), et_in 478 (by decide +kernel) (by decide +kernel), et_in 479 (by decide +kernel) (by decide +kernel), by decide, by decide, by decide⟩
abbrev Y_G_nodeAmong : et_Y := (⟨"EqualTerms$Graph", "nodeAmong", "(IIII)I"⟩, prog_3_method_3_code, 6, (some .int), [])
set_option maxRecDepth 100000 in
theorem mV_G_nodeAmong : et_MV Y_G_nodeAmong := ⟨et_in 484 rfl rfl, et_in 54 (by decide +kernel) (by decide +kernel), et_in 483 (by decide +kernel) (by decide +kernel), et_in 6 (by decide +kernel) (by decide +kernel), by decide, by decide, by decide⟩
abbrev Y_G_putNode : et_Y := (⟨"EqualTerms$Graph", "putNode", "(IIIII)V"⟩, prog_3_method_4_code, 6, none, [])
set_option maxRecDepth 100000 in
theorem mV_G_putNode : et_MV Y_G_putNode := ⟨et_in 488 rfl rfl, et_in 54 (by decide +kernel) (by decide +kernel), et_in 487 (by decide +kernel) (by decide +kernel), et_in 7 (by decide +kernel) (by decide +kernel), by decide, by decide, by decide⟩
abbrev Y_G_goBack : et_Y := (⟨"EqualTerms$Graph", "goBack", "(II)V"⟩, prog_3_method_6_code, 3, none, [])
set_option maxRecDepth 100000 in
theorem mV_G_goBack : et_MV Y_G_goBack := ⟨et_in 492 rfl rfl, et_in 54 (by decide +kernel) (by decide +kernel), et_in 490 (by decide +kernel) (by decide +kernel), et_in 491 (by decide +kernel) (by decide +kernel), by decide, by decide, by decide⟩
abbrev Y_G_nameAllByNumber : et_Y := (⟨"EqualTerms$Graph", "nameAllByNumber", "()V"⟩, prog_3_method_7_code, 2, none, [])
set_option maxRecDepth 100000 in
theorem mV_G_nameAllByNumber : et_MV Y_G_nameAllByNumber := ⟨et_in 496 rfl rfl, et_in 54 (by decide +kernel) (by decide +kernel), et_in 495 (by decide +kernel) (by decide +kernel), et_in 8 (by decide +kernel) (by decide +kernel), by decide, by decide, by decide⟩
abbrev Y_L_unite : et_Y := (⟨"EqualTermsLaw", "unite", "(LEqualTerms;[J)I"⟩, method_5_code, 3, (some .int), [(0, 8, 11, 13), (0, 8, 14, 15)])
set_option maxRecDepth 100000 in
theorem mS_L_unite : et_MS Y_L_unite := ⟨et_in 500 rfl rfl, et_in 51 (by decide +kernel) (by decide +kernel), et_in 499 (by decide +kernel) (by decide +kernel), by decide, by decide, by decide⟩
abbrev Y_E_unite : et_Y := (⟨"EqualTerms", "unite", "()I"⟩, prog_1_method_8_code, 5, (some .int), [])
set_option maxRecDepth 100000 in
theorem mV_E_unite : et_MV Y_E_unite := ⟨et_in 504 rfl rfl, et_in 52 (by decide +kernel) (by decide +kernel), et_in 502 (by decide +kernel) (by decide +kernel), et_in 503 (by decide +kernel) (by decide +kernel), by decide, by decide, by decide⟩
abbrev Y_E_demandEquation : et_Y := (⟨"EqualTerms", "demandEquation", "()V"⟩, prog_1_method_18_code, 1, none, [])
set_option maxRecDepth 100000 in
theorem mV_E_demandEquation : et_MV Y_E_demandEquation := ⟨et_in 508 rfl rfl, et_in 52 (by decide +kernel) (by decide +kernel), et_in 507 (by decide +kernel) (by decide +kernel), et_in 9 (by decide +kernel) (by decide +kernel), by decide, by decide, by decide⟩
abbrev Y_T_isEquation : et_Y := (⟨"EqualTerms$Text", "isEquation", "()Z"⟩, prog_7_method_7_code, 1, (some .boolean), [])
set_option maxRecDepth 100000 in
theorem mV_T_isEquation : et_MV Y_T_isEquation := ⟨et_in 512 rfl rfl, et_in 53 (by decide +kernel) (by decide +kernel), et_in 510 (by decide +kernel) (by decide +kernel), et_in 511 (by decide +kernel) (by decide +kernel), by decide, by decide, by decide⟩
abbrev Y_G_join : et_Y := (⟨"EqualTerms$Graph", "join", "(II)Z"⟩, prog_3_method_8_code, 6, (some .boolean), [])
set_option maxRecDepth 100000 in
theorem mV_G_join : et_MV Y_G_join := ⟨et_in 518 rfl rfl, et_in 54 (by decide +kernel) (by decide +kernel), et_in 516 (by decide +kernel) (by decide +kernel), et_in 517 (by decide +kernel) (by decide +kernel), by decide, by decide, by decide⟩
abbrev Y_G_settle : et_Y := (⟨"EqualTerms$Graph", "settle", "()V"⟩, prog_3_method_9_code, 2, none, [])
set_option maxRecDepth 100000 in
theorem mV_G_settle : et_MV Y_G_settle := ⟨et_in 522 rfl rfl, et_in 54 (by decide +kernel) (by decide +kernel), et_in 520 (by decide +kernel) (by decide +kernel), et_in 521 (by decide +kernel) (by decide +kernel), by decide, by decide, by decide⟩
abbrev Y_G_rename : et_Y := (⟨"EqualTerms$Graph", "rename", "()V"⟩, prog_3_method_10_code, 2, none, [])
set_option maxRecDepth 100000 in
theorem mV_G_rename : et_MV Y_G_rename := ⟨et_in 526 rfl rfl, et_in 54 (by decide +kernel) (by decide +kernel), et_in 525 (by decide +kernel) (by decide +kernel), et_in 10 (by decide +kernel) (by decide +kernel), by decide, by decide, by decide⟩
abbrev Y_G_mergeTwins : et_Y := (⟨"EqualTerms$Graph", "mergeTwins", "()Z"⟩, prog_3_method_11_code, 4, (some .boolean), [])
set_option maxRecDepth 100000 in
theorem mV_G_mergeTwins : et_MV Y_G_mergeTwins := ⟨et_in 530 rfl rfl, et_in 54 (by decide +kernel) (by decide +kernel), et_in 529 (by decide +kernel) (by decide +kernel), et_in 11 (by decide +kernel) (by decide +kernel), by decide, by decide, by decide⟩
abbrev Y_G_renumber : et_Y := (⟨"EqualTerms$Graph", "renumber", "()V"⟩, prog_3_method_12_code, 3, none, [])
set_option maxRecDepth 100000 in
theorem mV_G_renumber : et_MV Y_G_renumber := ⟨et_in 535 rfl rfl, et_in 54 (by decide +kernel) (by decide +kernel), et_in 534 (by decide +kernel) (by decide +kernel), et_in 12 (by decide +kernel) (by decide +kernel), by decide, by decide, by decide⟩
abbrev Y_L_same : et_Y := (⟨"EqualTermsLaw", "same", "(LEqualTerms;[J)I"⟩, method_6_code, 3, (some .int), [(0, 8, 11, 13)])
set_option maxRecDepth 100000 in
theorem mS_L_same : et_MS Y_L_same := ⟨et_in 540 rfl rfl, et_in 51 (by decide +kernel) (by decide +kernel), et_in 539 (by decide +kernel) (by decide +kernel), by decide, by decide, by decide⟩
abbrev Y_E_same : et_Y := (⟨"EqualTerms", "same", "()I"⟩, prog_1_method_9_code, 3, (some .int), [])
set_option maxRecDepth 100000 in
theorem mV_E_same : et_MV Y_E_same := ⟨et_in 544 rfl rfl, et_in 52 (by decide +kernel) (by decide +kernel), et_in 542 (by decide +kernel) (by decide +kernel), et_in 543 (by decide +kernel) (by decide +kernel), by decide, by decide, by decide⟩
abbrev Y_L_price : et_Y := (⟨"EqualTermsLaw", "price", "(LEqualTerms;II)I"⟩, method_7_code, 4, (some .int), [(0, 6, 9, 13)])
set_option maxRecDepth 100000 in
theorem mS_L_price : et_MS Y_L_price := ⟨et_in 547 rfl rfl, et_in 51 (by decide +kernel) (by decide +kernel), et_in 546 (by decide +kernel) (by decide +kernel), by decide, by decide, by decide⟩
abbrev Y_E_price : et_Y := (⟨"EqualTerms", "price", "(II)V"⟩, prog_1_method_10_code, 3, none, [])
set_option maxRecDepth 100000 in
theorem mV_E_price : et_MV Y_E_price := ⟨et_in 551 rfl rfl, et_in 52 (by decide +kernel) (by decide +kernel), et_in 549 (by decide +kernel) (by decide +kernel), et_in 550 (by decide +kernel) (by decide +kernel), by decide, by decide, by decide⟩
abbrev Y_L_rounds : et_Y := (⟨"EqualTermsLaw", "rounds", "(LEqualTerms;I[J)I"⟩, method_8_code, 4, (some .int), [(0, 9, 12, 13)])
set_option maxRecDepth 100000 in
theorem mS_L_rounds : et_MS Y_L_rounds := ⟨et_in 558 rfl rfl, et_in 51 (by decide +kernel) (by decide +kernel), et_in 557 (by decide +kernel) (by decide +kernel), by decide, by decide, by decide⟩
abbrev Y_E_rounds : et_Y := (⟨"EqualTerms", "rounds", "(I)I"⟩, prog_1_method_11_code, 4, (some .int), [])
set_option maxRecDepth 100000 in
theorem mV_E_rounds : et_MV Y_E_rounds := ⟨et_in 562 rfl rfl, et_in 52 (by decide +kernel) (by decide +kernel), et_in 560 (by decide +kernel) (by decide +kernel), et_in 561 (by decide +kernel) (by decide +kernel), by decide, by decide, by decide⟩
abbrev Y_R_fitAll : et_Y := (⟨"EqualTerms$Round", "fitAll", "([LEqualTerms$Rule;I)Z"⟩, prog_4_method_2_code, 7, (some .boolean), [])
set_option maxRecDepth 100000 in
theorem mV_R_fitAll : et_MV Y_R_fitAll := ⟨et_in 567 rfl rfl, et_in 56 (by decide +kernel) (by decide +kernel), et_in 565 (by decide +kernel) (by decide +kernel), et_in 566 (by decide +kernel) (by decide +kernel), by decide, by decide, by decide⟩
abbrev Y_R_listNodes : et_Y := (⟨"EqualTerms$Round", "listNodes", "()V"⟩, prog_4_method_3_code, 4, none, [])
set_option maxRecDepth 100000 in
theorem mV_R_listNodes : et_MV Y_R_listNodes := ⟨et_in 571 rfl rfl, et_in 56 (by decide +kernel) (by decide +kernel), et_in 570 (by decide +kernel) (by decide +kernel), et_in 13 (by decide +kernel) (by decide +kernel), by decide, by decide, by decide⟩
abbrev Y_R_fitFrom : et_Y := (⟨"EqualTerms$Round", "fitFrom", "(LEqualTerms$Rule;I)Z"⟩, prog_4_method_4_code, 6, (some .boolean), [])
set_option maxRecDepth 100000 in
theorem mV_R_fitFrom : et_MV Y_R_fitFrom := ⟨et_in 575 rfl rfl, et_in 56 (by decide +kernel) (by decide +kernel), et_in 574 (by decide +kernel) (by decide +kernel), et_in 14 (by decide +kernel) (by decide +kernel), by decide, by decide, by decide⟩
abbrev Y_R_joinSides : et_Y := (⟨"EqualTerms$Round", "joinSides", "(LEqualTerms$Rule;)Z"⟩, prog_4_method_6_code, 3, (some .boolean), [])
set_option maxRecDepth 100000 in
theorem mV_R_joinSides : et_MV Y_R_joinSides := ⟨et_in 579 rfl rfl, et_in 56 (by decide +kernel) (by decide +kernel), et_in 578 (by decide +kernel) (by decide +kernel), et_in 15 (by decide +kernel) (by decide +kernel), by decide, by decide, by decide⟩
abbrev Y_R_seatParts : et_Y := (⟨"EqualTerms$Round", "seatParts", "(LEqualTerms$Rule;II)V"⟩, prog_4_method_5_code, 5, none, [])
set_option maxRecDepth 100000 in
theorem mV_R_seatParts : et_MV Y_R_seatParts := ⟨et_in 586 rfl rfl, et_in 56 (by decide +kernel) (by decide +kernel), et_in 585 (by decide +kernel) (by decide +kernel), et_in 16 (by decide +kernel) (by decide +kernel), by decide, by decide, by decide⟩
abbrev Y_L_members : et_Y := (⟨"EqualTermsLaw", "members", "(LEqualTerms;[J)I"⟩, method_9_code, 3, (some .int), [(0, 8, 11, 13)])
set_option maxRecDepth 100000 in
theorem mS_L_members : et_MS Y_L_members := ⟨et_in 592 rfl rfl, et_in 51 (by decide +kernel) (by decide +kernel), et_in 591 (by decide +kernel) (by decide +kernel), by decide, by decide, by decide⟩
abbrev Y_E_members : et_Y := (⟨"EqualTerms", "members", "()I"⟩, prog_1_method_14_code, 2, (some .int), [])
set_option maxRecDepth 100000 in
theorem mV_E_members : et_MV Y_E_members := ⟨et_in 596 rfl rfl, et_in 52 (by decide +kernel) (by decide +kernel), et_in 594 (by decide +kernel) (by decide +kernel), et_in 595 (by decide +kernel) (by decide +kernel), by decide, by decide, by decide⟩
abbrev Y_E_takeTerm : et_Y := (⟨"EqualTerms", "takeTerm", "()I"⟩, prog_1_method_19_code, 2, (some .int), [])
set_option maxRecDepth 100000 in
theorem mV_E_takeTerm : et_MV Y_E_takeTerm := ⟨et_in 600 rfl rfl, et_in 52 (by decide +kernel) (by decide +kernel), et_in 599 (by decide +kernel) (by decide +kernel), et_in 17 (by decide +kernel) (by decide +kernel), by decide, by decide, by decide⟩
abbrev Y_G_sizeOf : et_Y := (⟨"EqualTerms$Graph", "sizeOf", "(I)I"⟩, prog_3_method_5_code, 4, (some .int), [])
set_option maxRecDepth 100000 in
theorem mV_G_sizeOf : et_MV Y_G_sizeOf := ⟨et_in 604 rfl rfl, et_in 54 (by decide +kernel) (by decide +kernel), et_in 602 (by decide +kernel) (by decide +kernel), et_in 603 (by decide +kernel) (by decide +kernel), by decide, by decide, by decide⟩
abbrev Y_L_cost : et_Y := (⟨"EqualTermsLaw", "cost", "(LEqualTerms;[J)I"⟩, method_10_code, 3, (some .int), [(0, 7, 10, 13)])
set_option maxRecDepth 100000 in
theorem mS_L_cost : et_MS Y_L_cost := ⟨et_in 607 rfl rfl, et_in 51 (by decide +kernel) (by decide +kernel), et_in 606 (by decide +kernel) (by decide +kernel), by decide, by decide, by decide⟩
abbrev Y_E_cost : et_Y := (⟨"EqualTerms", "cost", "()J"⟩, prog_1_method_15_code, 2, (some .long), [])
set_option maxRecDepth 100000 in
theorem mV_E_cost : et_MV Y_E_cost := ⟨et_in 611 rfl rfl, et_in 52 (by decide +kernel) (by decide +kernel), et_in 609 (by decide +kernel) (by decide +kernel), et_in 610 (by decide +kernel) (by decide +kernel), by decide, by decide, by decide⟩
abbrev Y_C_weigh : et_Y := (⟨"EqualTerms$Cheapest", "weigh", "()V"⟩, prog_2_method_2_code, 4, none, [])
set_option maxRecDepth 100000 in
theorem mV_C_weigh : et_MV Y_C_weigh := ⟨et_in 616 rfl rfl, et_in 57 (by decide +kernel) (by decide +kernel), et_in 614 (by decide +kernel) (by decide +kernel), et_in 615 (by decide +kernel) (by decide +kernel), by decide, by decide, by decide⟩
abbrev Y_A_fill_JJ : et_Y := (⟨"java/util/Arrays", "fill", "([JJ)V"⟩, prog_20_method_101_code, 5, none, [])
set_option maxRecDepth 100000 in
theorem mS_A_fill_JJ : et_MS Y_A_fill_JJ := ⟨et_in 620 rfl rfl, et_in 58 (by decide +kernel) (by decide +kernel), et_in 619 (by decide +kernel) (by decide +kernel), by decide, by decide, by decide⟩
abbrev Y_C_weighNode : et_Y := (⟨"EqualTerms$Cheapest", "weighNode", "(I)Z"⟩, prog_2_method_3_code, 7, (some .boolean), [])
set_option maxRecDepth 100000 in
theorem mV_C_weighNode : et_MV Y_C_weighNode := ⟨et_in 624 rfl rfl, et_in 57 (by decide +kernel) (by decide +kernel), et_in 623 (by decide +kernel) (by decide +kernel), et_in 18 (by decide +kernel) (by decide +kernel), by decide, by decide, by decide⟩
abbrev Y_C_costThrough : et_Y := (⟨"EqualTerms$Cheapest", "costThrough", "(I)J"⟩, prog_2_method_4_code, 4, (some .long), [])
set_option maxRecDepth 100000 in
theorem mV_C_costThrough : et_MV Y_C_costThrough := ⟨et_in 628 rfl rfl, et_in 57 (by decide +kernel) (by decide +kernel), et_in 627 (by decide +kernel) (by decide +kernel), et_in 19 (by decide +kernel) (by decide +kernel), by decide, by decide, by decide⟩
abbrev Y_C_sum : et_Y := (⟨"EqualTerms$Cheapest", "sum", "(JJ)J"⟩, prog_2_method_5_code, 4, (some .long), [])
set_option maxRecDepth 100000 in
theorem mS_C_sum : et_MS Y_C_sum := ⟨et_in 631 rfl rfl, et_in 57 (by decide +kernel) (by decide +kernel), et_in 630 (by decide +kernel) (by decide +kernel), by decide, by decide, by decide⟩
abbrev Y_C_lengthThrough : et_Y := (⟨"EqualTerms$Cheapest", "lengthThrough", "(I)J"⟩, prog_2_method_6_code, 4, (some .long), [])
set_option maxRecDepth 100000 in
theorem mV_C_lengthThrough : et_MV Y_C_lengthThrough := ⟨et_in 636 rfl rfl, et_in 57 (by decide +kernel) (by decide +kernel), et_in 635 (by decide +kernel) (by decide +kernel), et_in 20 (by decide +kernel) (by decide +kernel), by decide, by decide, by decide⟩
abbrev Y_L_best : et_Y := (⟨"EqualTermsLaw", "best", "(LEqualTerms;[J)I"⟩, method_11_code, 3, (some .int), [(0, 8, 11, 13)])
set_option maxRecDepth 100000 in
theorem mS_L_best : et_MS Y_L_best := ⟨et_in 641 rfl rfl, et_in 51 (by decide +kernel) (by decide +kernel), et_in 640 (by decide +kernel) (by decide +kernel), by decide, by decide, by decide⟩
abbrev Y_E_best : et_Y := (⟨"EqualTerms", "best", "()I"⟩, prog_1_method_16_code, 3, (some .int), [])
set_option maxRecDepth 100000 in
theorem mV_E_best : et_MV Y_E_best := ⟨et_in 645 rfl rfl, et_in 52 (by decide +kernel) (by decide +kernel), et_in 643 (by decide +kernel) (by decide +kernel), et_in 644 (by decide +kernel) (by decide +kernel), by decide, by decide, by decide⟩
abbrev Y_C_spell : et_Y := (⟨"EqualTerms$Cheapest", "spell", "(I)V"⟩, prog_2_method_7_code, 4, none, [])
set_option maxRecDepth 100000 in
theorem mV_C_spell : et_MV Y_C_spell := ⟨et_in 650 rfl rfl, et_in 57 (by decide +kernel) (by decide +kernel), et_in 648 (by decide +kernel) (by decide +kernel), et_in 649 (by decide +kernel) (by decide +kernel), by decide, by decide, by decide⟩
abbrev Y_C_isBest : et_Y := (⟨"EqualTerms$Cheapest", "isBest", "(I)Z"⟩, prog_2_method_8_code, 3, (some .boolean), [])
set_option maxRecDepth 100000 in
theorem mV_C_isBest : et_MV Y_C_isBest := ⟨et_in 654 rfl rfl, et_in 57 (by decide +kernel) (by decide +kernel), et_in 653 (by decide +kernel) (by decide +kernel), et_in 21 (by decide +kernel) (by decide +kernel), by decide, by decide, by decide⟩
abbrev Y_C_spellNode : et_Y := (⟨"EqualTerms$Cheapest", "spellNode", "(II)V"⟩, prog_2_method_9_code, 5, none, [])
set_option maxRecDepth 100000 in
theorem mV_C_spellNode : et_MV Y_C_spellNode := ⟨et_in 658 rfl rfl, et_in 57 (by decide +kernel) (by decide +kernel), et_in 657 (by decide +kernel) (by decide +kernel), et_in 22 (by decide +kernel) (by decide +kernel), by decide, by decide, by decide⟩
abbrev Y_C_appendTerm : et_Y := (⟨"EqualTerms$Cheapest", "appendTerm", "(II)I"⟩, prog_2_method_10_code, 4, (some .int), [])
set_option maxRecDepth 100000 in
theorem mV_C_appendTerm : et_MV Y_C_appendTerm := ⟨et_in 662 rfl rfl, et_in 57 (by decide +kernel) (by decide +kernel), et_in 661 (by decide +kernel) (by decide +kernel), et_in 23 (by decide +kernel) (by decide +kernel), by decide, by decide, by decide⟩
abbrev Y_C_trialComesBefore : et_Y := (⟨"EqualTerms$Cheapest", "trialComesBefore", "([II)Z"⟩, prog_2_method_11_code, 4, (some .boolean), [])
set_option maxRecDepth 100000 in
theorem mV_C_trialComesBefore : et_MV Y_C_trialComesBefore := ⟨et_in 667 rfl rfl, et_in 57 (by decide +kernel) (by decide +kernel), et_in 666 (by decide +kernel) (by decide +kernel), et_in 24 (by decide +kernel) (by decide +kernel), by decide, by decide, by decide⟩
abbrev Y_T_become : et_Y := (⟨"EqualTerms$Text", "become", "([II)V"⟩, prog_7_method_5_code, 3, none, [])
set_option maxRecDepth 100000 in
theorem mV_T_become : et_MV Y_T_become := ⟨et_in 671 rfl rfl, et_in 53 (by decide +kernel) (by decide +kernel), et_in 669 (by decide +kernel) (by decide +kernel), et_in 670 (by decide +kernel) (by decide +kernel), by decide, by decide, by decide⟩
abbrev Y_M_init : et_Y := (⟨"EqualTermsModel", "<init>", "()V"⟩, prog_10_method_1_code, 2, none, [])
set_option maxRecDepth 100000 in
theorem mI_M_init : et_MI Y_M_init := ⟨et_in 677 rfl rfl, et_in 59 (by decide +kernel) (by decide +kernel), et_in 676 (by decide +kernel) (by decide +kernel), by decide, by decide, by decide, rfl, rfl, rfl⟩
abbrev Y_M_thrown : et_Y := (⟨"EqualTermsModel", "thrown", "()I"⟩, prog_10_method_2_code, 1, (some .int), [])
set_option maxRecDepth 100000 in
theorem mV_M_thrown : et_MV Y_M_thrown := ⟨et_in 781 rfl rfl, et_in 59 (by decide +kernel) (by decide +kernel), et_in 779 (by decide +kernel) (by decide +kernel), et_in 780 (by decide +kernel) (by decide +kernel), by decide, by decide, by decide⟩
abbrev Y_M_type : et_Y := (⟨"EqualTermsModel", "type", "(JI)I"⟩, prog_10_method_6_code, 7, (some .int), [])
set_option maxRecDepth 100000 in
theorem mV_M_type : et_MV Y_M_type := ⟨et_in 785 rfl rfl, et_in 59 (by decide +kernel) (by decide +kernel), et_in 783 (by decide +kernel) (by decide +kernel), et_in 784 (by decide +kernel) (by decide +kernel), by decide, by decide, by decide⟩
abbrev Y_M_within : et_Y := (⟨"EqualTermsModel", "within", "(III)Z"⟩, prog_10_method_4_code, 3, (some .boolean), [])
set_option maxRecDepth 100000 in
theorem mS_M_within : et_MS Y_M_within := ⟨et_in 788 rfl rfl, et_in 59 (by decide +kernel) (by decide +kernel), et_in 787 (by decide +kernel) (by decide +kernel), by decide, by decide, by decide⟩
abbrev Y_M_wipe : et_Y := (⟨"EqualTermsModel", "wipe", "()I"⟩, prog_10_method_7_code, 2, (some .int), [])
set_option maxRecDepth 100000 in
theorem mV_M_wipe : et_MV Y_M_wipe := ⟨et_in 795 rfl rfl, et_in 59 (by decide +kernel) (by decide +kernel), et_in 793 (by decide +kernel) (by decide +kernel), et_in 794 (by decide +kernel) (by decide +kernel), by decide, by decide, by decide⟩
abbrev Y_M_character : et_Y := (⟨"EqualTermsModel", "character", "(I)I"⟩, prog_10_method_8_code, 2, (some .int), [])
set_option maxRecDepth 100000 in
theorem mV_M_character : et_MV Y_M_character := ⟨et_in 799 rfl rfl, et_in 59 (by decide +kernel) (by decide +kernel), et_in 797 (by decide +kernel) (by decide +kernel), et_in 798 (by decide +kernel) (by decide +kernel), by decide, by decide, by decide⟩
abbrev Y_M_place : et_Y := (⟨"EqualTermsModel", "place", "()I"⟩, prog_10_method_9_code, 1, (some .int), [])
set_option maxRecDepth 100000 in
theorem mV_M_place : et_MV Y_M_place := ⟨et_in 803 rfl rfl, et_in 59 (by decide +kernel) (by decide +kernel), et_in 801 (by decide +kernel) (by decide +kernel), et_in 802 (by decide +kernel) (by decide +kernel), by decide, by decide, by decide⟩
abbrev Y_M_rule : et_Y := (⟨"EqualTermsModel", "rule", "()I"⟩, prog_10_method_14_code, 3, (some .int), [])
set_option maxRecDepth 100000 in
theorem mV_M_rule : et_MV Y_M_rule := ⟨et_in 807 rfl rfl, et_in 59 (by decide +kernel) (by decide +kernel), et_in 805 (by decide +kernel) (by decide +kernel), et_in 806 (by decide +kernel) (by decide +kernel), by decide, by decide, by decide⟩
abbrev Y_M_readBoth : et_Y := (⟨"EqualTermsModel", "readBoth", "(IZ)I"⟩, prog_10_method_13_code, 4, (some .int), [])
set_option maxRecDepth 100000 in
theorem mV_M_readBoth : et_MV Y_M_readBoth := ⟨et_in 811 rfl rfl, et_in 59 (by decide +kernel) (by decide +kernel), et_in 810 (by decide +kernel) (by decide +kernel), et_in 25 (by decide +kernel) (by decide +kernel), by decide, by decide, by decide⟩
abbrev Y_M_readSide : et_Y := (⟨"EqualTermsModel", "readSide", "(II)Z"⟩, prog_10_method_11_code, 6, (some .boolean), [])
set_option maxRecDepth 100000 in
theorem mV_M_readSide : et_MV Y_M_readSide := ⟨et_in 815 rfl rfl, et_in 59 (by decide +kernel) (by decide +kernel), et_in 814 (by decide +kernel) (by decide +kernel), et_in 26 (by decide +kernel) (by decide +kernel), by decide, by decide, by decide⟩
abbrev Y_M_fail : et_Y := (⟨"EqualTermsModel", "fail", "()Z"⟩, prog_10_method_10_code, 1, (some .boolean), [])
set_option maxRecDepth 100000 in
theorem mV_M_fail : et_MV Y_M_fail := ⟨et_in 819 rfl rfl, et_in 59 (by decide +kernel) (by decide +kernel), et_in 818 (by decide +kernel) (by decide +kernel), et_in 27 (by decide +kernel) (by decide +kernel), by decide, by decide, by decide⟩
abbrev Y_M_takes : et_Y := (⟨"EqualTermsModel", "takes", "(I)I"⟩, prog_10_method_5_code, 1, (some .int), [])
set_option maxRecDepth 100000 in
theorem mS_M_takes : et_MS Y_M_takes := ⟨et_in 822 rfl rfl, et_in 59 (by decide +kernel) (by decide +kernel), et_in 821 (by decide +kernel) (by decide +kernel), by decide, by decide, by decide⟩
abbrev Y_M_refuse : et_Y := (⟨"EqualTermsModel", "refuse", "(I)I"⟩, prog_10_method_3_code, 2, (some .int), [])
set_option maxRecDepth 100000 in
theorem mV_M_refuse : et_MV Y_M_refuse := ⟨et_in 826 rfl rfl, et_in 59 (by decide +kernel) (by decide +kernel), et_in 825 (by decide +kernel) (by decide +kernel), et_in 28 (by decide +kernel) (by decide +kernel), by decide, by decide, by decide⟩
abbrev Y_M_add : et_Y := (⟨"EqualTermsModel", "add", "()I"⟩, prog_10_method_26_code, 4, (some .int), [])
set_option maxRecDepth 100000 in
theorem mV_M_add : et_MV Y_M_add := ⟨et_in 830 rfl rfl, et_in 59 (by decide +kernel) (by decide +kernel), et_in 828 (by decide +kernel) (by decide +kernel), et_in 829 (by decide +kernel) (by decide +kernel), by decide, by decide, by decide⟩
abbrev Y_M_readTerm : et_Y := (⟨"EqualTermsModel", "readTerm", "()Z"⟩, prog_10_method_12_code, 1, (some .boolean), [])
set_option maxRecDepth 100000 in
theorem mV_M_readTerm : et_MV Y_M_readTerm := ⟨et_in 834 rfl rfl, et_in 59 (by decide +kernel) (by decide +kernel), et_in 833 (by decide +kernel) (by decide +kernel), et_in 29 (by decide +kernel) (by decide +kernel), by decide, by decide, by decide⟩
abbrev Y_M_workText : et_Y := (⟨"EqualTermsModel", "workText", "(III)I"⟩, prog_10_method_18_code, 6, (some .int), [])
set_option maxRecDepth 100000 in
theorem mV_M_workText : et_MV Y_M_workText := ⟨et_in 838 rfl rfl, et_in 59 (by decide +kernel) (by decide +kernel), et_in 837 (by decide +kernel) (by decide +kernel), et_in 30 (by decide +kernel) (by decide +kernel), by decide, by decide, by decide⟩
abbrev Y_M_push : et_Y := (⟨"EqualTermsModel", "push", "(II)Z"⟩, prog_10_method_17_code, 7, (some .boolean), [])
set_option maxRecDepth 100000 in
theorem mV_M_push : et_MV Y_M_push := ⟨et_in 842 rfl rfl, et_in 59 (by decide +kernel) (by decide +kernel), et_in 841 (by decide +kernel) (by decide +kernel), et_in 31 (by decide +kernel) (by decide +kernel), by decide, by decide, by decide⟩
abbrev Y_M_classOf : et_Y := (⟨"EqualTermsModel", "classOf", "(IIII)I"⟩, prog_10_method_16_code, 6, (some .int), [])
set_option maxRecDepth 100000 in
theorem mV_M_classOf : et_MV Y_M_classOf := ⟨et_in 846 rfl rfl, et_in 59 (by decide +kernel) (by decide +kernel), et_in 845 (by decide +kernel) (by decide +kernel), et_in 32 (by decide +kernel) (by decide +kernel), by decide, by decide, by decide⟩
abbrev Y_M_findNode : et_Y := (⟨"EqualTermsModel", "findNode", "(III)I"⟩, prog_10_method_15_code, 5, (some .int), [])
set_option maxRecDepth 100000 in
theorem mV_M_findNode : et_MV Y_M_findNode := ⟨et_in 850 rfl rfl, et_in 59 (by decide +kernel) (by decide +kernel), et_in 849 (by decide +kernel) (by decide +kernel), et_in 33 (by decide +kernel) (by decide +kernel), by decide, by decide, by decide⟩
abbrev Y_M_cut : et_Y := (⟨"EqualTermsModel", "cut", "(II)V"⟩, prog_10_method_25_code, 4, none, [])
set_option maxRecDepth 100000 in
theorem mV_M_cut : et_MV Y_M_cut := ⟨et_in 854 rfl rfl, et_in 59 (by decide +kernel) (by decide +kernel), et_in 853 (by decide +kernel) (by decide +kernel), et_in 34 (by decide +kernel) (by decide +kernel), by decide, by decide, by decide⟩
abbrev Y_M_unite : et_Y := (⟨"EqualTermsModel", "unite", "()I"⟩, prog_10_method_27_code, 6, (some .int), [])
set_option maxRecDepth 100000 in
theorem mV_M_unite : et_MV Y_M_unite := ⟨et_in 858 rfl rfl, et_in 59 (by decide +kernel) (by decide +kernel), et_in 856 (by decide +kernel) (by decide +kernel), et_in 857 (by decide +kernel) (by decide +kernel), by decide, by decide, by decide⟩
abbrev Y_M_joinClasses : et_Y := (⟨"EqualTermsModel", "joinClasses", "(II)V"⟩, prog_10_method_20_code, 6, none, [])
set_option maxRecDepth 100000 in
theorem mV_M_joinClasses : et_MV Y_M_joinClasses := ⟨et_in 862 rfl rfl, et_in 59 (by decide +kernel) (by decide +kernel), et_in 861 (by decide +kernel) (by decide +kernel), et_in 35 (by decide +kernel) (by decide +kernel), by decide, by decide, by decide⟩
abbrev Y_M_close : et_Y := (⟨"EqualTermsModel", "close", "()V"⟩, prog_10_method_23_code, 4, none, [])
set_option maxRecDepth 100000 in
theorem mV_M_close : et_MV Y_M_close := ⟨et_in 866 rfl rfl, et_in 59 (by decide +kernel) (by decide +kernel), et_in 865 (by decide +kernel) (by decide +kernel), et_in 36 (by decide +kernel) (by decide +kernel), by decide, by decide, by decide⟩
abbrev Y_M_labelOf : et_Y := (⟨"EqualTermsModel", "labelOf", "(I)I"⟩, prog_10_method_22_code, 2, (some .int), [])
set_option maxRecDepth 100000 in
theorem mV_M_labelOf : et_MV Y_M_labelOf := ⟨et_in 870 rfl rfl, et_in 59 (by decide +kernel) (by decide +kernel), et_in 869 (by decide +kernel) (by decide +kernel), et_in 37 (by decide +kernel) (by decide +kernel), by decide, by decide, by decide⟩
abbrev Y_M_removeNode : et_Y := (⟨"EqualTermsModel", "removeNode", "(I)V"⟩, prog_10_method_21_code, 3, none, [])
set_option maxRecDepth 100000 in
theorem mV_M_removeNode : et_MV Y_M_removeNode := ⟨et_in 874 rfl rfl, et_in 59 (by decide +kernel) (by decide +kernel), et_in 873 (by decide +kernel) (by decide +kernel), et_in 38 (by decide +kernel) (by decide +kernel), by decide, by decide, by decide⟩
abbrev Y_M_renumber : et_Y := (⟨"EqualTermsModel", "renumber", "()V"⟩, prog_10_method_24_code, 4, none, [])
set_option maxRecDepth 100000 in
theorem mV_M_renumber : et_MV Y_M_renumber := ⟨et_in 878 rfl rfl, et_in 59 (by decide +kernel) (by decide +kernel), et_in 877 (by decide +kernel) (by decide +kernel), et_in 39 (by decide +kernel) (by decide +kernel), by decide, by decide, by decide⟩
abbrev Y_M_same : et_Y := (⟨"EqualTermsModel", "same", "()I"⟩, prog_10_method_28_code, 4, (some .int), [])
set_option maxRecDepth 100000 in
theorem mV_M_same : et_MV Y_M_same := ⟨et_in 882 rfl rfl, et_in 59 (by decide +kernel) (by decide +kernel), et_in 880 (by decide +kernel) (by decide +kernel), et_in 881 (by decide +kernel) (by decide +kernel), by decide, by decide, by decide⟩
abbrev Y_M_price : et_Y := (⟨"EqualTermsModel", "price", "(II)V"⟩, prog_10_method_29_code, 3, none, [])
set_option maxRecDepth 100000 in
theorem mV_M_price : et_MV Y_M_price := ⟨et_in 886 rfl rfl, et_in 59 (by decide +kernel) (by decide +kernel), et_in 884 (by decide +kernel) (by decide +kernel), et_in 885 (by decide +kernel) (by decide +kernel), by decide, by decide, by decide⟩
abbrev Y_M_rounds : et_Y := (⟨"EqualTermsModel", "rounds", "(I)I"⟩, prog_10_method_37_code, 4, (some .int), [])
set_option maxRecDepth 100000 in
theorem mV_M_rounds : et_MV Y_M_rounds := ⟨et_in 891 rfl rfl, et_in 59 (by decide +kernel) (by decide +kernel), et_in 889 (by decide +kernel) (by decide +kernel), et_in 890 (by decide +kernel) (by decide +kernel), by decide, by decide, by decide⟩
abbrev Y_M_oneRound : et_Y := (⟨"EqualTermsModel", "oneRound", "()I"⟩, prog_10_method_36_code, 4, (some .int), [])
set_option maxRecDepth 100000 in
theorem mV_M_oneRound : et_MV Y_M_oneRound := ⟨et_in 895 rfl rfl, et_in 59 (by decide +kernel) (by decide +kernel), et_in 894 (by decide +kernel) (by decide +kernel), et_in 40 (by decide +kernel) (by decide +kernel), by decide, by decide, by decide⟩
abbrev Y_M_fillTables : et_Y := (⟨"EqualTermsModel", "fillTables", "()V"⟩, prog_10_method_31_code, 3, none, [])
set_option maxRecDepth 100000 in
theorem mV_M_fillTables : et_MV Y_M_fillTables := ⟨et_in 899 rfl rfl, et_in 59 (by decide +kernel) (by decide +kernel), et_in 898 (by decide +kernel) (by decide +kernel), et_in 41 (by decide +kernel) (by decide +kernel), by decide, by decide, by decide⟩
abbrev Y_M_kindOf : et_Y := (⟨"EqualTermsModel", "kindOf", "(I)I"⟩, prog_10_method_30_code, 1, (some .int), [])
set_option maxRecDepth 100000 in
theorem mS_M_kindOf : et_MS Y_M_kindOf := ⟨et_in 902 rfl rfl, et_in 59 (by decide +kernel) (by decide +kernel), et_in 901 (by decide +kernel) (by decide +kernel), by decide, by decide, by decide⟩
abbrev Y_M_fit : et_Y := (⟨"EqualTermsModel", "fit", "(II)V"⟩, prog_10_method_35_code, 7, none, [])
set_option maxRecDepth 100000 in
theorem mV_M_fit : et_MV Y_M_fit := ⟨et_in 906 rfl rfl, et_in 59 (by decide +kernel) (by decide +kernel), et_in 905 (by decide +kernel) (by decide +kernel), et_in 42 (by decide +kernel) (by decide +kernel), by decide, by decide, by decide⟩
abbrev Y_M_variablesOf : et_Y := (⟨"EqualTermsModel", "variablesOf", "(I)I"⟩, prog_10_method_33_code, 5, (some .int), [])
set_option maxRecDepth 100000 in
theorem mV_M_variablesOf : et_MV Y_M_variablesOf := ⟨et_in 910 rfl rfl, et_in 59 (by decide +kernel) (by decide +kernel), et_in 909 (by decide +kernel) (by decide +kernel), et_in 43 (by decide +kernel) (by decide +kernel), by decide, by decide, by decide⟩
abbrev Y_M_tabled : et_Y := (⟨"EqualTermsModel", "tabled", "(I)I"⟩, prog_10_method_32_code, 7, (some .int), [])
set_option maxRecDepth 100000 in
theorem mV_M_tabled : et_MV Y_M_tabled := ⟨et_in 914 rfl rfl, et_in 59 (by decide +kernel) (by decide +kernel), et_in 913 (by decide +kernel) (by decide +kernel), et_in 44 (by decide +kernel) (by decide +kernel), by decide, by decide, by decide⟩
abbrev Y_M_workSide : et_Y := (⟨"EqualTermsModel", "workSide", "(II)I"⟩, prog_10_method_19_code, 5, (some .int), [])
set_option maxRecDepth 100000 in
theorem mV_M_workSide : et_MV Y_M_workSide := ⟨et_in 918 rfl rfl, et_in 59 (by decide +kernel) (by decide +kernel), et_in 917 (by decide +kernel) (by decide +kernel), et_in 45 (by decide +kernel) (by decide +kernel), by decide, by decide, by decide⟩
abbrev Y_M_nextChoice : et_Y := (⟨"EqualTermsModel", "nextChoice", "(II)Z"⟩, prog_10_method_34_code, 4, (some .boolean), [])
set_option maxRecDepth 100000 in
theorem mV_M_nextChoice : et_MV Y_M_nextChoice := ⟨et_in 922 rfl rfl, et_in 59 (by decide +kernel) (by decide +kernel), et_in 921 (by decide +kernel) (by decide +kernel), et_in 46 (by decide +kernel) (by decide +kernel), by decide, by decide, by decide⟩
abbrev Y_M_nodes : et_Y := (⟨"EqualTermsModel", "nodes", "()I"⟩, prog_10_method_38_code, 1, (some .int), [])
set_option maxRecDepth 100000 in
theorem mV_M_nodes : et_MV Y_M_nodes := ⟨et_in 926 rfl rfl, et_in 59 (by decide +kernel) (by decide +kernel), et_in 924 (by decide +kernel) (by decide +kernel), et_in 925 (by decide +kernel) (by decide +kernel), by decide, by decide, by decide⟩
abbrev Y_M_classes : et_Y := (⟨"EqualTermsModel", "classes", "()I"⟩, prog_10_method_39_code, 1, (some .int), [])
set_option maxRecDepth 100000 in
theorem mV_M_classes : et_MV Y_M_classes := ⟨et_in 930 rfl rfl, et_in 59 (by decide +kernel) (by decide +kernel), et_in 928 (by decide +kernel) (by decide +kernel), et_in 929 (by decide +kernel) (by decide +kernel), by decide, by decide, by decide⟩
abbrev Y_M_members : et_Y := (⟨"EqualTermsModel", "members", "()I"⟩, prog_10_method_41_code, 4, (some .int), [])
set_option maxRecDepth 100000 in
theorem mV_M_members : et_MV Y_M_members := ⟨et_in 934 rfl rfl, et_in 59 (by decide +kernel) (by decide +kernel), et_in 932 (by decide +kernel) (by decide +kernel), et_in 933 (by decide +kernel) (by decide +kernel), by decide, by decide, by decide⟩
abbrev Y_M_asked : et_Y := (⟨"EqualTermsModel", "asked", "()I"⟩, prog_10_method_40_code, 2, (some .int), [])
set_option maxRecDepth 100000 in
theorem mV_M_asked : et_MV Y_M_asked := ⟨et_in 938 rfl rfl, et_in 59 (by decide +kernel) (by decide +kernel), et_in 937 (by decide +kernel) (by decide +kernel), et_in 47 (by decide +kernel) (by decide +kernel), by decide, by decide, by decide⟩
abbrev Y_M_cost : et_Y := (⟨"EqualTermsModel", "cost", "()J"⟩, prog_10_method_46_code, 2, (some .long), [])
set_option maxRecDepth 100000 in
theorem mV_M_cost : et_MV Y_M_cost := ⟨et_in 942 rfl rfl, et_in 59 (by decide +kernel) (by decide +kernel), et_in 940 (by decide +kernel) (by decide +kernel), et_in 941 (by decide +kernel) (by decide +kernel), by decide, by decide, by decide⟩
abbrev Y_M_findBest : et_Y := (⟨"EqualTermsModel", "findBest", "()V"⟩, prog_10_method_45_code, 5, none, [])
set_option maxRecDepth 100000 in
theorem mV_M_findBest : et_MV Y_M_findBest := ⟨et_in 947 rfl rfl, et_in 59 (by decide +kernel) (by decide +kernel), et_in 946 (by decide +kernel) (by decide +kernel), et_in 48 (by decide +kernel) (by decide +kernel), by decide, by decide, by decide⟩
abbrev Y_M_append : et_Y := (⟨"EqualTermsModel", "append", "(I)V"⟩, prog_10_method_43_code, 3, none, [])
set_option maxRecDepth 100000 in
theorem mV_M_append : et_MV Y_M_append := ⟨et_in 952 rfl rfl, et_in 59 (by decide +kernel) (by decide +kernel), et_in 951 (by decide +kernel) (by decide +kernel), et_in 49 (by decide +kernel) (by decide +kernel), by decide, by decide, by decide⟩
abbrev Y_M_sum : et_Y := (⟨"EqualTermsModel", "sum", "(JJ)J"⟩, prog_10_method_42_code, 4, (some .long), [])
set_option maxRecDepth 100000 in
theorem mS_M_sum : et_MS Y_M_sum := ⟨et_in 955 rfl rfl, et_in 59 (by decide +kernel) (by decide +kernel), et_in 954 (by decide +kernel) (by decide +kernel), by decide, by decide, by decide⟩
abbrev Y_M_isBetter : et_Y := (⟨"EqualTermsModel", "isBetter", "(I)Z"⟩, prog_10_method_44_code, 3, (some .boolean), [])
set_option maxRecDepth 100000 in
theorem mV_M_isBetter : et_MV Y_M_isBetter := ⟨et_in 961 rfl rfl, et_in 59 (by decide +kernel) (by decide +kernel), et_in 960 (by decide +kernel) (by decide +kernel), et_in 50 (by decide +kernel) (by decide +kernel), by decide, by decide, by decide⟩
abbrev Y_M_best : et_Y := (⟨"EqualTermsModel", "best", "()I"⟩, prog_10_method_47_code, 3, (some .int), [])
set_option maxRecDepth 100000 in
theorem mV_M_best : et_MV Y_M_best := ⟨et_in 966 rfl rfl, et_in 59 (by decide +kernel) (by decide +kernel), et_in 964 (by decide +kernel) (by decide +kernel), et_in 965 (by decide +kernel) (by decide +kernel), by decide, by decide, by decide⟩
theorem ini_L : Cond.initialized "EqualTermsLaw" ∈ et_W := et_in 51 (by decide +kernel) (by decide +kernel)
theorem ini_E : Cond.initialized "EqualTerms" ∈ et_W := et_in 52 (by decide +kernel) (by decide +kernel)
theorem ini_T : Cond.initialized "EqualTerms$Text" ∈ et_W := et_in 53 (by decide +kernel) (by decide +kernel)
theorem ini_G : Cond.initialized "EqualTerms$Graph" ∈ et_W := et_in 54 (by decide +kernel) (by decide +kernel)
theorem ini_K : Cond.initialized "EqualTerms$Walk" ∈ et_W := et_in 55 (by decide +kernel) (by decide +kernel)
theorem ini_R : Cond.initialized "EqualTerms$Round" ∈ et_W := et_in 56 (by decide +kernel) (by decide +kernel)
theorem ini_C : Cond.initialized "EqualTerms$Cheapest" ∈ et_W := et_in 57 (by decide +kernel) (by decide +kernel)
theorem ini_A : Cond.initialized "java/util/Arrays" ∈ et_W := et_in 58 (by decide +kernel) (by decide +kernel)
theorem ini_M : Cond.initialized "EqualTermsModel" ∈ et_W := et_in 59 (by decide +kernel) (by decide +kernel)
theorem ini_S : Cond.initialized "EqualTerms$Signs" ∈ et_W := et_in 60 (by decide +kernel) (by decide +kernel)
theorem ini_Throwable : Cond.initialized "java/lang/Throwable" ∈ et_W := et_in 61 (by decide +kernel) (by decide +kernel)
theorem ini_Exception : Cond.initialized "java/lang/Exception" ∈ et_W := et_in 62 (by decide +kernel) (by decide +kernel)
theorem ini_RuntimeException : Cond.initialized "java/lang/RuntimeException" ∈ et_W := et_in 63 (by decide +kernel) (by decide +kernel)
theorem ini_IllegalArgumentException : Cond.initialized "java/lang/IllegalArgumentException" ∈ et_W := et_in 64 (by decide +kernel) (by decide +kernel)
theorem ini_IllegalStateException : Cond.initialized "java/lang/IllegalStateException" ∈ et_W := et_in 65 (by decide +kernel) (by decide +kernel)
theorem ini_U : Cond.initialized "EqualTerms$Rule" ∈ et_W := et_in 66 (by decide +kernel) (by decide +kernel)
theorem ini_H : Cond.initialized "java/lang/Math" ∈ et_W := et_in 67 (by decide +kernel) (by decide +kernel)
theorem ini_System : Cond.initialized "java/lang/System" ∈ et_W := et_in 68 (by decide +kernel) (by decide +kernel)
theorem cl_L_8 : Cond.classLink "EqualTermsLaw" 8 "EqualTerms" ∈ et_W := et_in 69 (by decide +kernel) (by decide +kernel)
theorem ins_E : Cond.instantiable "EqualTerms" 7 ∈ et_W := et_in 70 (by decide +kernel) (by decide +kernel)
theorem lk_L_44 : et_lk "EqualTermsLaw" 44 (Y_E_init).1 := Or.inl (et_in 71 (by decide +kernel) (by decide +kernel))
theorem lk_E_1 : et_lk "EqualTerms" 1 (Y_O_init).1 := Or.inl (et_in 74 (by decide +kernel) (by decide +kernel))
theorem cl_E_7 : Cond.classLink "EqualTerms" 7 "EqualTerms$Text" ∈ et_W := et_in 77 (by decide +kernel) (by decide +kernel)
theorem ins_T : Cond.instantiable "EqualTerms$Text" 4 ∈ et_W := et_in 78 (by decide +kernel) (by decide +kernel)
theorem lk_E_9 : et_lk "EqualTerms" 9 (Y_T_init).1 := Or.inr ⟨"EqualTerms", by decide +kernel⟩
theorem lk_T_3 : et_lk "EqualTerms$Text" 3 (Y_O_init).1 := Or.inl (et_in 82 (by decide +kernel) (by decide +kernel))
theorem fl_T_9 : Cond.fieldLink "EqualTerms$Text" 9 "EqualTerms$Text" "characters" "[I" ∈ et_W := et_in 83 (by decide +kernel) (by decide +kernel)
theorem fl_U_19 : Cond.fieldLink "EqualTerms$Rule" 19 "EqualTerms$Text" "characters" "[I" ∈ et_W := et_in 84 (by decide +kernel) (by decide +kernel)
theorem fl_E_68 : Cond.fieldLink "EqualTerms" 68 "EqualTerms$Text" "characters" "[I" ∈ et_W := et_in 85 (by decide +kernel) (by decide +kernel)
theorem fl_T_15 : Cond.fieldLink "EqualTerms$Text" 15 "EqualTerms$Text" "size" "I" ∈ et_W := et_in 86 (by decide +kernel) (by decide +kernel)
theorem fl_U_24 : Cond.fieldLink "EqualTerms$Rule" 24 "EqualTerms$Text" "size" "I" ∈ et_W := et_in 87 (by decide +kernel) (by decide +kernel)
theorem fl_E_62 : Cond.fieldLink "EqualTerms" 62 "EqualTerms$Text" "size" "I" ∈ et_W := et_in 88 (by decide +kernel) (by decide +kernel)
theorem fl_T_19 : Cond.fieldLink "EqualTerms$Text" 19 "EqualTerms$Text" "middle" "I" ∈ et_W := et_in 89 (by decide +kernel) (by decide +kernel)
theorem fl_U_35 : Cond.fieldLink "EqualTerms$Rule" 35 "EqualTerms$Text" "middle" "I" ∈ et_W := et_in 90 (by decide +kernel) (by decide +kernel)
theorem fl_E_116 : Cond.fieldLink "EqualTerms" 116 "EqualTerms$Text" "middle" "I" ∈ et_W := et_in 91 (by decide +kernel) (by decide +kernel)
theorem fl_T_22 : Cond.fieldLink "EqualTerms$Text" 22 "EqualTerms$Text" "wrongPlace" "I" ∈ et_W := et_in 92 (by decide +kernel) (by decide +kernel)
theorem fl_E_72 : Cond.fieldLink "EqualTerms" 72 "EqualTerms$Text" "wrongPlace" "I" ∈ et_W := et_in 93 (by decide +kernel) (by decide +kernel)
theorem ac_int : Cond.arrayClass .int ∈ et_W := et_in 103 (by decide +kernel) (by decide +kernel)
theorem cl_E_16 : Cond.classLink "EqualTerms" 16 "EqualTerms$Graph" ∈ et_W := et_in 104 (by decide +kernel) (by decide +kernel)
theorem ins_G : Cond.instantiable "EqualTerms$Graph" 8 ∈ et_W := et_in 105 (by decide +kernel) (by decide +kernel)
theorem lk_E_18 : et_lk "EqualTerms" 18 (Y_G_init).1 := Or.inr ⟨"EqualTerms", by decide +kernel⟩
theorem lk_G_3 : et_lk "EqualTerms$Graph" 3 (Y_O_init).1 := Or.inl (et_in 109 (by decide +kernel) (by decide +kernel))
theorem fl_G_9 : Cond.fieldLink "EqualTerms$Graph" 9 "EqualTerms$Graph" "signs" "[I" ∈ et_W := et_in 110 (by decide +kernel) (by decide +kernel)
theorem fl_C_70 : Cond.fieldLink "EqualTerms$Cheapest" 70 "EqualTerms$Graph" "signs" "[I" ∈ et_W := et_in 111 (by decide +kernel) (by decide +kernel)
theorem fl_R_86 : Cond.fieldLink "EqualTerms$Round" 86 "EqualTerms$Graph" "signs" "[I" ∈ et_W := et_in 112 (by decide +kernel) (by decide +kernel)
theorem fl_G_15 : Cond.fieldLink "EqualTerms$Graph" 15 "EqualTerms$Graph" "lefts" "[I" ∈ et_W := et_in 113 (by decide +kernel) (by decide +kernel)
theorem fl_C_73 : Cond.fieldLink "EqualTerms$Cheapest" 73 "EqualTerms$Graph" "lefts" "[I" ∈ et_W := et_in 114 (by decide +kernel) (by decide +kernel)
theorem fl_R_97 : Cond.fieldLink "EqualTerms$Round" 97 "EqualTerms$Graph" "lefts" "[I" ∈ et_W := et_in 115 (by decide +kernel) (by decide +kernel)
theorem fl_G_18 : Cond.fieldLink "EqualTerms$Graph" 18 "EqualTerms$Graph" "rights" "[I" ∈ et_W := et_in 116 (by decide +kernel) (by decide +kernel)
theorem fl_C_80 : Cond.fieldLink "EqualTerms$Cheapest" 80 "EqualTerms$Graph" "rights" "[I" ∈ et_W := et_in 117 (by decide +kernel) (by decide +kernel)
theorem fl_R_103 : Cond.fieldLink "EqualTerms$Round" 103 "EqualTerms$Graph" "rights" "[I" ∈ et_W := et_in 118 (by decide +kernel) (by decide +kernel)
theorem fl_G_21 : Cond.fieldLink "EqualTerms$Graph" 21 "EqualTerms$Graph" "homes" "[I" ∈ et_W := et_in 119 (by decide +kernel) (by decide +kernel)
theorem fl_C_58 : Cond.fieldLink "EqualTerms$Cheapest" 58 "EqualTerms$Graph" "homes" "[I" ∈ et_W := et_in 120 (by decide +kernel) (by decide +kernel)
theorem fl_R_56 : Cond.fieldLink "EqualTerms$Round" 56 "EqualTerms$Graph" "homes" "[I" ∈ et_W := et_in 121 (by decide +kernel) (by decide +kernel)
theorem fl_G_24 : Cond.fieldLink "EqualTerms$Graph" 24 "EqualTerms$Graph" "nodeCount" "I" ∈ et_W := et_in 122 (by decide +kernel) (by decide +kernel)
theorem fl_R_33 : Cond.fieldLink "EqualTerms$Round" 33 "EqualTerms$Graph" "nodeCount" "I" ∈ et_W := et_in 123 (by decide +kernel) (by decide +kernel)
theorem fl_C_51 : Cond.fieldLink "EqualTerms$Cheapest" 51 "EqualTerms$Graph" "nodeCount" "I" ∈ et_W := et_in 124 (by decide +kernel) (by decide +kernel)
theorem fl_E_97 : Cond.fieldLink "EqualTerms" 97 "EqualTerms$Graph" "nodeCount" "I" ∈ et_W := et_in 125 (by decide +kernel) (by decide +kernel)
theorem fl_G_28 : Cond.fieldLink "EqualTerms$Graph" 28 "EqualTerms$Graph" "classCount" "I" ∈ et_W := et_in 126 (by decide +kernel) (by decide +kernel)
theorem fl_R_39 : Cond.fieldLink "EqualTerms$Round" 39 "EqualTerms$Graph" "classCount" "I" ∈ et_W := et_in 127 (by decide +kernel) (by decide +kernel)
theorem fl_C_45 : Cond.fieldLink "EqualTerms$Cheapest" 45 "EqualTerms$Graph" "classCount" "I" ∈ et_W := et_in 128 (by decide +kernel) (by decide +kernel)
theorem fl_E_100 : Cond.fieldLink "EqualTerms" 100 "EqualTerms$Graph" "classCount" "I" ∈ et_W := et_in 129 (by decide +kernel) (by decide +kernel)
theorem fl_G_31 : Cond.fieldLink "EqualTerms$Graph" 31 "EqualTerms$Graph" "names" "[I" ∈ et_W := et_in 130 (by decide +kernel) (by decide +kernel)
theorem fl_G_34 : Cond.fieldLink "EqualTerms$Graph" 34 "EqualTerms$Graph" "numbers" "[I" ∈ et_W := et_in 131 (by decide +kernel) (by decide +kernel)
theorem cl_E_23 : Cond.classLink "EqualTerms" 23 "EqualTerms$Walk" ∈ et_W := et_in 149 (by decide +kernel) (by decide +kernel)
theorem ins_K : Cond.instantiable "EqualTerms$Walk" 3 ∈ et_W := et_in 150 (by decide +kernel) (by decide +kernel)
theorem lk_E_25 : et_lk "EqualTerms" 25 (Y_K_init).1 := Or.inl (et_in 151 (by decide +kernel) (by decide +kernel))
theorem lk_K_3 : et_lk "EqualTerms$Walk" 3 (Y_O_init).1 := Or.inl (et_in 154 (by decide +kernel) (by decide +kernel))
theorem fl_K_9 : Cond.fieldLink "EqualTerms$Walk" 9 "EqualTerms$Walk" "variables" "[I" ∈ et_W := et_in 155 (by decide +kernel) (by decide +kernel)
theorem fl_R_81 : Cond.fieldLink "EqualTerms$Round" 81 "EqualTerms$Walk" "variables" "[I" ∈ et_W := et_in 156 (by decide +kernel) (by decide +kernel)
theorem fl_K_18 : Cond.fieldLink "EqualTerms$Walk" 18 "EqualTerms$Walk" "graph" "LEqualTerms$Graph;" ∈ et_W := et_in 157 (by decide +kernel) (by decide +kernel)
theorem fl_K_15 : Cond.fieldLink "EqualTerms$Walk" 15 "EqualTerms$Walk" "stack" "[I" ∈ et_W := et_in 158 (by decide +kernel) (by decide +kernel)
theorem cl_E_32 : Cond.classLink "EqualTerms" 32 "EqualTerms$Round" ∈ et_W := et_in 166 (by decide +kernel) (by decide +kernel)
theorem ins_R : Cond.instantiable "EqualTerms$Round" 6 ∈ et_W := et_in 167 (by decide +kernel) (by decide +kernel)
theorem lk_E_34 : et_lk "EqualTerms" 34 (Y_R_init).1 := Or.inl (et_in 168 (by decide +kernel) (by decide +kernel))
theorem lk_R_3 : et_lk "EqualTerms$Round" 3 (Y_O_init).1 := Or.inl (et_in 171 (by decide +kernel) (by decide +kernel))
theorem fl_R_9 : Cond.fieldLink "EqualTerms$Round" 9 "EqualTerms$Round" "changed" "Z" ∈ et_W := et_in 172 (by decide +kernel) (by decide +kernel)
theorem fl_E_148 : Cond.fieldLink "EqualTerms" 148 "EqualTerms$Round" "changed" "Z" ∈ et_W := et_in 173 (by decide +kernel) (by decide +kernel)
theorem fl_R_25 : Cond.fieldLink "EqualTerms$Round" 25 "EqualTerms$Round" "graph" "LEqualTerms$Graph;" ∈ et_W := et_in 174 (by decide +kernel) (by decide +kernel)
theorem fl_R_29 : Cond.fieldLink "EqualTerms$Round" 29 "EqualTerms$Round" "walk" "LEqualTerms$Walk;" ∈ et_W := et_in 175 (by decide +kernel) (by decide +kernel)
theorem fl_R_15 : Cond.fieldLink "EqualTerms$Round" 15 "EqualTerms$Round" "seats" "[I" ∈ et_W := et_in 176 (by decide +kernel) (by decide +kernel)
theorem fl_R_19 : Cond.fieldLink "EqualTerms$Round" 19 "EqualTerms$Round" "listed" "[I" ∈ et_W := et_in 177 (by decide +kernel) (by decide +kernel)
theorem fl_R_22 : Cond.fieldLink "EqualTerms$Round" 22 "EqualTerms$Round" "begins" "[I" ∈ et_W := et_in 178 (by decide +kernel) (by decide +kernel)
theorem cl_E_41 : Cond.classLink "EqualTerms" 41 "EqualTerms$Cheapest" ∈ et_W := et_in 192 (by decide +kernel) (by decide +kernel)
theorem ins_C : Cond.instantiable "EqualTerms$Cheapest" 6 ∈ et_W := et_in 193 (by decide +kernel) (by decide +kernel)
theorem lk_E_43 : et_lk "EqualTerms" 43 (Y_C_init).1 := Or.inl (et_in 194 (by decide +kernel) (by decide +kernel))
theorem lk_C_3 : et_lk "EqualTerms$Cheapest" 3 (Y_O_init).1 := Or.inl (et_in 197 (by decide +kernel) (by decide +kernel))
theorem cl_C_22 : Cond.classLink "EqualTerms$Cheapest" 22 "[[I" ∈ et_W := et_in 198 (by decide +kernel) (by decide +kernel)
theorem lk_C_34 : et_lk "EqualTerms$Cheapest" 34 (Y_A_fill_II).1 := Or.inl (et_in 200 (by decide +kernel) (by decide +kernel))
theorem fl_C_9 : Cond.fieldLink "EqualTerms$Cheapest" 9 "EqualTerms$Cheapest" "prices" "[I" ∈ et_W := et_in 203 (by decide +kernel) (by decide +kernel)
theorem fl_E_139 : Cond.fieldLink "EqualTerms" 139 "EqualTerms$Cheapest" "prices" "[I" ∈ et_W := et_in 204 (by decide +kernel) (by decide +kernel)
theorem fl_C_15 : Cond.fieldLink "EqualTerms$Cheapest" 15 "EqualTerms$Cheapest" "costs" "[J" ∈ et_W := et_in 205 (by decide +kernel) (by decide +kernel)
theorem fl_E_164 : Cond.fieldLink "EqualTerms" 164 "EqualTerms$Cheapest" "costs" "[J" ∈ et_W := et_in 206 (by decide +kernel) (by decide +kernel)
theorem fl_C_19 : Cond.fieldLink "EqualTerms$Cheapest" 19 "EqualTerms$Cheapest" "lengths" "[J" ∈ et_W := et_in 207 (by decide +kernel) (by decide +kernel)
theorem fl_E_172 : Cond.fieldLink "EqualTerms" 172 "EqualTerms$Cheapest" "lengths" "[J" ∈ et_W := et_in 208 (by decide +kernel) (by decide +kernel)
theorem fl_C_24 : Cond.fieldLink "EqualTerms$Cheapest" 24 "EqualTerms$Cheapest" "terms" "[[I" ∈ et_W := et_in 209 (by decide +kernel) (by decide +kernel)
theorem fl_E_181 : Cond.fieldLink "EqualTerms" 181 "EqualTerms$Cheapest" "terms" "[[I" ∈ et_W := et_in 210 (by decide +kernel) (by decide +kernel)
theorem fl_C_30 : Cond.fieldLink "EqualTerms$Cheapest" 30 "EqualTerms$Cheapest" "graph" "LEqualTerms$Graph;" ∈ et_W := et_in 211 (by decide +kernel) (by decide +kernel)
theorem fl_C_27 : Cond.fieldLink "EqualTerms$Cheapest" 27 "EqualTerms$Cheapest" "trial" "[I" ∈ et_W := et_in 212 (by decide +kernel) (by decide +kernel)
theorem ac_long : Cond.arrayClass .long ∈ et_W := et_in 226 (by decide +kernel) (by decide +kernel)
theorem cl_E_48 : Cond.classLink "EqualTerms" 48 "EqualTerms$Rule" ∈ et_W := et_in 227 (by decide +kernel) (by decide +kernel)
theorem fl_E_10 : Cond.fieldLink "EqualTerms" 10 "EqualTerms" "text" "LEqualTerms$Text;" ∈ et_W := et_in 229 (by decide +kernel) (by decide +kernel)
theorem fl_E_19 : Cond.fieldLink "EqualTerms" 19 "EqualTerms" "graph" "LEqualTerms$Graph;" ∈ et_W := et_in 230 (by decide +kernel) (by decide +kernel)
theorem fl_E_28 : Cond.fieldLink "EqualTerms" 28 "EqualTerms" "walk" "LEqualTerms$Walk;" ∈ et_W := et_in 231 (by decide +kernel) (by decide +kernel)
theorem fl_E_37 : Cond.fieldLink "EqualTerms" 37 "EqualTerms" "round" "LEqualTerms$Round;" ∈ et_W := et_in 232 (by decide +kernel) (by decide +kernel)
theorem fl_E_44 : Cond.fieldLink "EqualTerms" 44 "EqualTerms" "cheapest" "LEqualTerms$Cheapest;" ∈ et_W := et_in 233 (by decide +kernel) (by decide +kernel)
theorem fl_E_50 : Cond.fieldLink "EqualTerms" 50 "EqualTerms" "ruleRow" "[LEqualTerms$Rule;" ∈ et_W := et_in 234 (by decide +kernel) (by decide +kernel)
theorem fl_E_54 : Cond.fieldLink "EqualTerms" 54 "EqualTerms" "ruleCount" "I" ∈ et_W := et_in 235 (by decide +kernel) (by decide +kernel)
theorem lk_L_50 : et_lk "EqualTermsLaw" 50 (Y_E_type).1 := Or.inl (et_in 251 (by decide +kernel) (by decide +kernel))
theorem lk_E_58 : et_lk "EqualTerms" 58 (Y_T_append).1 := Or.inl (et_in 255 (by decide +kernel) (by decide +kernel))
theorem lk_T_25 : et_lk "EqualTerms$Text" 25 (Y_T_byteAt).1 := Or.inl (et_in 259 (by decide +kernel) (by decide +kernel))
theorem kl_T_29 : Cond.constantLong "EqualTerms$Text" 29 255 ∈ et_W := et_in 262 (by decide +kernel) (by decide +kernel)
theorem lk_L_55 : et_lk "EqualTermsLaw" 55 (Y_E_wipe).1 := Or.inl (et_in 263 (by decide +kernel) (by decide +kernel))
theorem lk_E_65 : et_lk "EqualTerms" 65 (Y_T_clear).1 := Or.inl (et_in 267 (by decide +kernel) (by decide +kernel))
theorem lk_L_59 : et_lk "EqualTermsLaw" 59 (Y_E_character).1 := Or.inl (et_in 271 (by decide +kernel) (by decide +kernel))
theorem lk_L_63 : et_lk "EqualTermsLaw" 63 (Y_E_place).1 := Or.inl (et_in 275 (by decide +kernel) (by decide +kernel))
theorem lk_L_93 : et_lk "EqualTermsLaw" 93 (Y_E_nodes).1 := Or.inl (et_in 279 (by decide +kernel) (by decide +kernel))
theorem lk_L_97 : et_lk "EqualTermsLaw" 97 (Y_E_classes).1 := Or.inl (et_in 283 (by decide +kernel) (by decide +kernel))
theorem lk_L_67 : et_lk "EqualTermsLaw" 67 (Y_L_rule).1 := Or.inl (et_in 287 (by decide +kernel) (by decide +kernel))
theorem cl_L_13 : Cond.classLink "EqualTermsLaw" 13 "java/lang/IllegalArgumentException" ∈ et_W := et_in 290 (by decide +kernel) (by decide +kernel)
theorem cl_L_15 : Cond.classLink "EqualTermsLaw" 15 "java/lang/IllegalStateException" ∈ et_W := et_in 291 (by decide +kernel) (by decide +kernel)
theorem lk_L_7 : et_lk "EqualTermsLaw" 7 (Y_E_rule).1 := Or.inl (et_in 292 (by decide +kernel) (by decide +kernel))
theorem lk_E_75 : et_lk "EqualTerms" 75 (Y_T_isRule).1 := Or.inl (et_in 296 (by decide +kernel) (by decide +kernel))
theorem lk_T_37 : et_lk "EqualTerms$Text" 37 (Y_T_firstWrong).1 := Or.inl (et_in 300 (by decide +kernel) (by decide +kernel))
theorem lk_T_45 : et_lk "EqualTerms$Text" 45 (Y_T_partsInRule).1 := Or.inl (et_in 304 (by decide +kernel) (by decide +kernel))
theorem lk_T_54 : et_lk "EqualTerms$Text" 54 (Y_S_isVariable).1 := Or.inl (et_in 308 (by decide +kernel) (by decide +kernel))
theorem lk_T_57 : et_lk "EqualTerms$Text" 57 (Y_T_inFirstSide).1 := Or.inl (et_in 311 (by decide +kernel) (by decide +kernel))
theorem lk_T_60 : et_lk "EqualTerms$Text" 60 (Y_S_partsInPattern).1 := Or.inl (et_in 315 (by decide +kernel) (by decide +kernel))
theorem lk_S_9 : et_lk "EqualTerms$Signs" 9 (Y_S_isVariable).1 := Or.inl (et_in 318 (by decide +kernel) (by decide +kernel))
theorem lk_S_15 : et_lk "EqualTerms$Signs" 15 (Y_S_parts).1 := Or.inl (et_in 319 (by decide +kernel) (by decide +kernel))
theorem lk_T_49 : et_lk "EqualTerms$Text" 49 (Y_S_parts).1 := Or.inl (et_in 322 (by decide +kernel) (by decide +kernel))
theorem lk_T_41 : et_lk "EqualTerms$Text" 41 (Y_T_noteWrong).1 := Or.inl (et_in 323 (by decide +kernel) (by decide +kernel))
theorem cl_E_79 : Cond.classLink "EqualTerms" 79 "java/lang/IllegalArgumentException" ∈ et_W := et_in 327 (by decide +kernel) (by decide +kernel)
theorem ins_IllegalArgumentException : Cond.instantiable "java/lang/IllegalArgumentException" 6 ∈ et_W := et_in 328 (by decide +kernel) (by decide +kernel)
theorem ins_Throwable : Cond.instantiable "java/lang/Throwable" 6 ∈ et_W := et_in 365 (by decide +kernel) (by decide +kernel)
set_option maxRecDepth 100000 in
theorem ml_E_83 : Cond.methodLink "EqualTerms" 83 ⟨"java/lang/IllegalArgumentException", "<init>", "(Ljava/lang/String;)V"⟩ ∈ et_W := et_in 368 (by decide +kernel) (by decide +kernel)
theorem ac_byte : Cond.arrayClass .byte ∈ et_W := et_in 393 (by decide +kernel) (by decide +kernel)
theorem cl_E_86 : Cond.classLink "EqualTerms" 86 "java/lang/IllegalStateException" ∈ et_W := et_in 394 (by decide +kernel) (by decide +kernel)
theorem ins_IllegalStateException : Cond.instantiable "java/lang/IllegalStateException" 6 ∈ et_W := et_in 395 (by decide +kernel) (by decide +kernel)
set_option maxRecDepth 100000 in
theorem ml_E_90 : Cond.methodLink "EqualTerms" 90 ⟨"java/lang/IllegalStateException", "<init>", "(Ljava/lang/String;)V"⟩ ∈ et_W := et_in 404 (by decide +kernel) (by decide +kernel)
theorem ins_U : Cond.instantiable "EqualTerms$Rule" 4 ∈ et_W := et_in 410 (by decide +kernel) (by decide +kernel)
theorem lk_E_91 : et_lk "EqualTerms" 91 (Y_U_init).1 := Or.inl (et_in 411 (by decide +kernel) (by decide +kernel))
theorem lk_U_3 : et_lk "EqualTerms$Rule" 3 (Y_O_init).1 := Or.inl (et_in 414 (by decide +kernel) (by decide +kernel))
theorem lk_U_28 : et_lk "EqualTerms$Rule" 28 (Y_A_copyOf).1 := Or.inl (et_in 415 (by decide +kernel) (by decide +kernel))
set_option maxRecDepth 100000 in
theorem ml_A_316 : Cond.methodLink "java/util/Arrays" 316 ⟨"[I", "clone", "()Ljava/lang/Object;"⟩ ∈ et_W := et_in 418 (by decide +kernel) (by decide +kernel)
theorem cl_A_317 : Cond.classLink "java/util/Arrays" 317 "[I" ∈ et_W := et_in 424 (by decide +kernel) (by decide +kernel)
theorem lk_A_304 : et_lk "java/util/Arrays" 304 (Y_H_min).1 := Or.inl (et_in 425 (by decide +kernel) (by decide +kernel))
set_option maxRecDepth 100000 in
theorem ml_A_150 : Cond.methodLink "java/util/Arrays" 150 ⟨"java/lang/System", "arraycopy", "(Ljava/lang/Object;ILjava/lang/Object;II)V"⟩ ∈ et_W := et_in 428 (by decide +kernel) (by decide +kernel)
theorem lk_U_39 : et_lk "EqualTerms$Rule" 39 (Y_S_isVariable).1 := Or.inl (et_in 431 (by decide +kernel) (by decide +kernel))
theorem lk_U_45 : et_lk "EqualTerms$Rule" 45 (Y_S_parts).1 := Or.inl (et_in 432 (by decide +kernel) (by decide +kernel))
theorem lk_U_49 : et_lk "EqualTerms$Rule" 49 (Y_U_endOfPattern).1 := Or.inl (et_in 433 (by decide +kernel) (by decide +kernel))
theorem lk_U_53 : et_lk "EqualTerms$Rule" 53 (Y_S_partsInPattern).1 := Or.inl (et_in 436 (by decide +kernel) (by decide +kernel))
theorem fl_U_34 : Cond.fieldLink "EqualTerms$Rule" 34 "EqualTerms$Rule" "characters" "[I" ∈ et_W := et_in 437 (by decide +kernel) (by decide +kernel)
theorem fl_R_68 : Cond.fieldLink "EqualTerms$Round" 68 "EqualTerms$Rule" "characters" "[I" ∈ et_W := et_in 438 (by decide +kernel) (by decide +kernel)
theorem fl_U_38 : Cond.fieldLink "EqualTerms$Rule" 38 "EqualTerms$Rule" "middle" "I" ∈ et_W := et_in 439 (by decide +kernel) (by decide +kernel)
theorem fl_R_59 : Cond.fieldLink "EqualTerms$Round" 59 "EqualTerms$Rule" "middle" "I" ∈ et_W := et_in 440 (by decide +kernel) (by decide +kernel)
theorem fl_U_9 : Cond.fieldLink "EqualTerms$Rule" 9 "EqualTerms$Rule" "secondPart" "[I" ∈ et_W := et_in 441 (by decide +kernel) (by decide +kernel)
theorem fl_R_100 : Cond.fieldLink "EqualTerms$Round" 100 "EqualTerms$Rule" "secondPart" "[I" ∈ et_W := et_in 442 (by decide +kernel) (by decide +kernel)
theorem fl_U_15 : Cond.fieldLink "EqualTerms$Rule" 15 "EqualTerms$Rule" "binds" "[Z" ∈ et_W := et_in 443 (by decide +kernel) (by decide +kernel)
theorem fl_R_77 : Cond.fieldLink "EqualTerms$Round" 77 "EqualTerms$Rule" "binds" "[Z" ∈ et_W := et_in 444 (by decide +kernel) (by decide +kernel)
theorem ac_boolean : Cond.arrayClass .boolean ∈ et_W := et_in 454 (by decide +kernel) (by decide +kernel)
theorem lk_L_76 : et_lk "EqualTermsLaw" 76 (Y_L_add).1 := Or.inl (et_in 455 (by decide +kernel) (by decide +kernel))
theorem lk_L_17 : et_lk "EqualTermsLaw" 17 (Y_E_add).1 := Or.inl (et_in 458 (by decide +kernel) (by decide +kernel))
theorem lk_E_94 : et_lk "EqualTerms" 94 (Y_E_demandTerm).1 := Or.inl (et_in 462 (by decide +kernel) (by decide +kernel))
theorem lk_E_189 : et_lk "EqualTerms" 189 (Y_T_isTerm).1 := Or.inl (et_in 466 (by decide +kernel) (by decide +kernel))
theorem lk_E_103 : et_lk "EqualTerms" 103 (Y_K_classOf).1 := Or.inl (et_in 471 (by decide +kernel) (by decide +kernel))
theorem lk_K_22 : et_lk "EqualTerms$Walk" 22 (Y_S_partsInPattern).1 := Or.inl (et_in 475 (by decide +kernel) (by decide +kernel))
theorem lk_K_28 : et_lk "EqualTerms$Walk" 28 (Y_S_isVariable).1 := Or.inl (et_in 476 (by decide +kernel) (by decide +kernel))
theorem lk_K_32 : et_lk "EqualTerms$Walk" 32 (Y_G_homeOf).1 := Or.inl (et_in 477 (by decide +kernel) (by decide +kernel))
theorem lk_G_37 : et_lk "EqualTerms$Graph" 37 (Y_G_nodeAmong).1 := Or.inl (et_in 481 (by decide +kernel) (by decide +kernel))
theorem lk_G_41 : et_lk "EqualTerms$Graph" 41 (Y_G_putNode).1 := Or.inl (et_in 485 (by decide +kernel) (by decide +kernel))
theorem lk_E_107 : et_lk "EqualTerms" 107 (Y_G_goBack).1 := Or.inl (et_in 489 (by decide +kernel) (by decide +kernel))
theorem lk_G_45 : et_lk "EqualTerms$Graph" 45 (Y_G_nameAllByNumber).1 := Or.inl (et_in 493 (by decide +kernel) (by decide +kernel))
theorem lk_L_79 : et_lk "EqualTermsLaw" 79 (Y_L_unite).1 := Or.inl (et_in 498 (by decide +kernel) (by decide +kernel))
theorem lk_L_20 : et_lk "EqualTermsLaw" 20 (Y_E_unite).1 := Or.inl (et_in 501 (by decide +kernel) (by decide +kernel))
theorem lk_E_113 : et_lk "EqualTerms" 113 (Y_E_demandEquation).1 := Or.inl (et_in 505 (by decide +kernel) (by decide +kernel))
theorem lk_E_194 : et_lk "EqualTerms" 194 (Y_T_isEquation).1 := Or.inl (et_in 509 (by decide +kernel) (by decide +kernel))
theorem lk_E_121 : et_lk "EqualTerms" 121 (Y_G_join).1 := Or.inl (et_in 515 (by decide +kernel) (by decide +kernel))
theorem lk_E_125 : et_lk "EqualTerms" 125 (Y_G_settle).1 := Or.inl (et_in 519 (by decide +kernel) (by decide +kernel))
theorem lk_G_48 : et_lk "EqualTerms$Graph" 48 (Y_G_rename).1 := Or.inl (et_in 523 (by decide +kernel) (by decide +kernel))
theorem lk_G_51 : et_lk "EqualTerms$Graph" 51 (Y_G_mergeTwins).1 := Or.inl (et_in 527 (by decide +kernel) (by decide +kernel))
theorem lk_G_58 : et_lk "EqualTerms$Graph" 58 (Y_G_join).1 := Or.inl (et_in 531 (by decide +kernel) (by decide +kernel))
theorem lk_G_55 : et_lk "EqualTerms$Graph" 55 (Y_G_renumber).1 := Or.inl (et_in 532 (by decide +kernel) (by decide +kernel))
theorem lk_G_62 : et_lk "EqualTerms$Graph" 62 (Y_A_fill_II).1 := Or.inl (et_in 536 (by decide +kernel) (by decide +kernel))
set_option maxRecDepth 100000 in
theorem ml_G_68 : Cond.methodLink "EqualTerms$Graph" 68 ⟨"java/lang/System", "arraycopy", "(Ljava/lang/Object;ILjava/lang/Object;II)V"⟩ ∈ et_W := et_in 537 (by decide +kernel) (by decide +kernel)
theorem lk_L_82 : et_lk "EqualTermsLaw" 82 (Y_L_same).1 := Or.inl (et_in 538 (by decide +kernel) (by decide +kernel))
theorem lk_L_23 : et_lk "EqualTermsLaw" 23 (Y_E_same).1 := Or.inl (et_in 541 (by decide +kernel) (by decide +kernel))
theorem lk_L_85 : et_lk "EqualTermsLaw" 85 (Y_L_price).1 := Or.inl (et_in 545 (by decide +kernel) (by decide +kernel))
theorem lk_L_26 : et_lk "EqualTermsLaw" 26 (Y_E_price).1 := Or.inl (et_in 548 (by decide +kernel) (by decide +kernel))
theorem lk_E_128 : et_lk "EqualTerms" 128 (Y_S_parts).1 := Or.inl (et_in 552 (by decide +kernel) (by decide +kernel))
theorem kc_E_136 : Cond.constant "EqualTerms" 136 1000000000 ∈ et_W := et_in 554 (by decide +kernel) (by decide +kernel)
theorem lk_L_89 : et_lk "EqualTermsLaw" 89 (Y_L_rounds).1 := Or.inl (et_in 556 (by decide +kernel) (by decide +kernel))
theorem lk_L_30 : et_lk "EqualTermsLaw" 30 (Y_E_rounds).1 := Or.inl (et_in 559 (by decide +kernel) (by decide +kernel))
theorem lk_E_144 : et_lk "EqualTerms" 144 (Y_R_fitAll).1 := Or.inl (et_in 564 (by decide +kernel) (by decide +kernel))
theorem lk_R_42 : et_lk "EqualTerms$Round" 42 (Y_R_listNodes).1 := Or.inl (et_in 568 (by decide +kernel) (by decide +kernel))
theorem lk_R_45 : et_lk "EqualTerms$Round" 45 (Y_R_fitFrom).1 := Or.inl (et_in 572 (by decide +kernel) (by decide +kernel))
theorem lk_R_64 : et_lk "EqualTerms$Round" 64 (Y_R_joinSides).1 := Or.inl (et_in 576 (by decide +kernel) (by decide +kernel))
theorem lk_R_106 : et_lk "EqualTerms$Round" 106 (Y_K_classOf).1 := Or.inl (et_in 580 (by decide +kernel) (by decide +kernel))
theorem lk_R_110 : et_lk "EqualTerms$Round" 110 (Y_G_join).1 := Or.inl (et_in 581 (by decide +kernel) (by decide +kernel))
theorem lk_R_71 : et_lk "EqualTerms$Round" 71 (Y_S_isVariable).1 := Or.inl (et_in 582 (by decide +kernel) (by decide +kernel))
theorem lk_R_89 : et_lk "EqualTerms$Round" 89 (Y_R_seatParts).1 := Or.inl (et_in 583 (by decide +kernel) (by decide +kernel))
theorem lk_R_93 : et_lk "EqualTerms$Round" 93 (Y_S_parts).1 := Or.inl (et_in 587 (by decide +kernel) (by decide +kernel))
theorem lk_R_49 : et_lk "EqualTerms$Round" 49 (Y_G_goBack).1 := Or.inl (et_in 588 (by decide +kernel) (by decide +kernel))
theorem lk_R_53 : et_lk "EqualTerms$Round" 53 (Y_G_settle).1 := Or.inl (et_in 589 (by decide +kernel) (by decide +kernel))
theorem lk_L_101 : et_lk "EqualTermsLaw" 101 (Y_L_members).1 := Or.inl (et_in 590 (by decide +kernel) (by decide +kernel))
theorem lk_L_34 : et_lk "EqualTermsLaw" 34 (Y_E_members).1 := Or.inl (et_in 593 (by decide +kernel) (by decide +kernel))
theorem lk_E_152 : et_lk "EqualTerms" 152 (Y_E_takeTerm).1 := Or.inl (et_in 597 (by decide +kernel) (by decide +kernel))
theorem lk_E_156 : et_lk "EqualTerms" 156 (Y_G_sizeOf).1 := Or.inl (et_in 601 (by decide +kernel) (by decide +kernel))
theorem lk_L_104 : et_lk "EqualTermsLaw" 104 (Y_L_cost).1 := Or.inl (et_in 605 (by decide +kernel) (by decide +kernel))
theorem lk_L_37 : et_lk "EqualTermsLaw" 37 (Y_E_cost).1 := Or.inl (et_in 608 (by decide +kernel) (by decide +kernel))
theorem kl_E_159 : Cond.constantLong "EqualTerms" 159 (-1) ∈ et_W := et_in 612 (by decide +kernel) (by decide +kernel)
theorem lk_E_161 : et_lk "EqualTerms" 161 (Y_C_weigh).1 := Or.inl (et_in 613 (by decide +kernel) (by decide +kernel))
theorem kl_C_40 : Cond.constantLong "EqualTerms$Cheapest" 40 4611686018427387905 ∈ et_W := et_in 617 (by decide +kernel) (by decide +kernel)
theorem lk_C_42 : et_lk "EqualTerms$Cheapest" 42 (Y_A_fill_JJ).1 := Or.inl (et_in 618 (by decide +kernel) (by decide +kernel))
theorem lk_C_54 : et_lk "EqualTerms$Cheapest" 54 (Y_C_weighNode).1 := Or.inl (et_in 621 (by decide +kernel) (by decide +kernel))
theorem lk_C_61 : et_lk "EqualTerms$Cheapest" 61 (Y_C_costThrough).1 := Or.inl (et_in 625 (by decide +kernel) (by decide +kernel))
theorem lk_C_76 : et_lk "EqualTerms$Cheapest" 76 (Y_C_sum).1 := Or.inl (et_in 629 (by decide +kernel) (by decide +kernel))
theorem kl_C_65 : Cond.constantLong "EqualTerms$Cheapest" 65 4611686018427387904 ∈ et_W := et_in 632 (by decide +kernel) (by decide +kernel)
theorem lk_C_67 : et_lk "EqualTerms$Cheapest" 67 (Y_C_lengthThrough).1 := Or.inl (et_in 633 (by decide +kernel) (by decide +kernel))
theorem kl_E_168 : Cond.constantLong "EqualTerms" 168 4611686018427387904 ∈ et_W := et_in 637 (by decide +kernel) (by decide +kernel)
theorem kl_E_170 : Cond.constantLong "EqualTerms" 170 (-3) ∈ et_W := et_in 638 (by decide +kernel) (by decide +kernel)
theorem lk_L_107 : et_lk "EqualTermsLaw" 107 (Y_L_best).1 := Or.inl (et_in 639 (by decide +kernel) (by decide +kernel))
theorem lk_L_41 : et_lk "EqualTermsLaw" 41 (Y_E_best).1 := Or.inl (et_in 642 (by decide +kernel) (by decide +kernel))
theorem kl_E_175 : Cond.constantLong "EqualTerms" 175 60 ∈ et_W := et_in 646 (by decide +kernel) (by decide +kernel)
theorem lk_E_177 : et_lk "EqualTerms" 177 (Y_C_spell).1 := Or.inl (et_in 647 (by decide +kernel) (by decide +kernel))
theorem lk_C_83 : et_lk "EqualTerms$Cheapest" 83 (Y_C_isBest).1 := Or.inl (et_in 651 (by decide +kernel) (by decide +kernel))
theorem lk_C_86 : et_lk "EqualTerms$Cheapest" 86 (Y_C_spellNode).1 := Or.inl (et_in 655 (by decide +kernel) (by decide +kernel))
theorem lk_C_90 : et_lk "EqualTerms$Cheapest" 90 (Y_C_appendTerm).1 := Or.inl (et_in 659 (by decide +kernel) (by decide +kernel))
set_option maxRecDepth 100000 in
theorem ml_C_98 : Cond.methodLink "EqualTerms$Cheapest" 98 ⟨"java/lang/System", "arraycopy", "(Ljava/lang/Object;ILjava/lang/Object;II)V"⟩ ∈ et_W := et_in 663 (by decide +kernel) (by decide +kernel)
theorem lk_C_94 : et_lk "EqualTerms$Cheapest" 94 (Y_C_trialComesBefore).1 := Or.inl (et_in 664 (by decide +kernel) (by decide +kernel))
theorem lk_E_185 : et_lk "EqualTerms" 185 (Y_T_become).1 := Or.inl (et_in 668 (by decide +kernel) (by decide +kernel))
set_option maxRecDepth 100000 in
theorem ml_T_31 : Cond.methodLink "EqualTerms$Text" 31 ⟨"java/lang/System", "arraycopy", "(Ljava/lang/Object;ILjava/lang/Object;II)V"⟩ ∈ et_W := et_in 672 (by decide +kernel) (by decide +kernel)
theorem cl_L_45 : Cond.classLink "EqualTermsLaw" 45 "EqualTermsModel" ∈ et_W := et_in 673 (by decide +kernel) (by decide +kernel)
theorem ins_M : Cond.instantiable "EqualTermsModel" 33 ∈ et_W := et_in 674 (by decide +kernel) (by decide +kernel)
theorem lk_L_47 : et_lk "EqualTermsLaw" 47 (Y_M_init).1 := Or.inl (et_in 675 (by decide +kernel) (by decide +kernel))
theorem lk_M_1 : et_lk "EqualTermsModel" 1 (Y_O_init).1 := Or.inl (et_in 678 (by decide +kernel) (by decide +kernel))
theorem fl_M_72 : Cond.fieldLink "EqualTermsModel" 72 "EqualTermsModel" "thrown" "I" ∈ et_W := et_in 679 (by decide +kernel) (by decide +kernel)
theorem fl_M_7 : Cond.fieldLink "EqualTermsModel" 7 "EqualTermsModel" "text" "[I" ∈ et_W := et_in 680 (by decide +kernel) (by decide +kernel)
theorem fl_M_79 : Cond.fieldLink "EqualTermsModel" 79 "EqualTermsModel" "length" "I" ∈ et_W := et_in 681 (by decide +kernel) (by decide +kernel)
theorem fl_M_88 : Cond.fieldLink "EqualTermsModel" 88 "EqualTermsModel" "at" "I" ∈ et_W := et_in 682 (by decide +kernel) (by decide +kernel)
theorem fl_M_13 : Cond.fieldLink "EqualTermsModel" 13 "EqualTermsModel" "wrong" "I" ∈ et_W := et_in 683 (by decide +kernel) (by decide +kernel)
theorem fl_M_91 : Cond.fieldLink "EqualTermsModel" 91 "EqualTermsModel" "end" "I" ∈ et_W := et_in 684 (by decide +kernel) (by decide +kernel)
theorem fl_M_102 : Cond.fieldLink "EqualTermsModel" 102 "EqualTermsModel" "seen" "I" ∈ et_W := et_in 685 (by decide +kernel) (by decide +kernel)
theorem fl_M_113 : Cond.fieldLink "EqualTermsModel" 113 "EqualTermsModel" "rules" "I" ∈ et_W := et_in 686 (by decide +kernel) (by decide +kernel)
theorem fl_M_17 : Cond.fieldLink "EqualTermsModel" 17 "EqualTermsModel" "sides" "[I" ∈ et_W := et_in 687 (by decide +kernel) (by decide +kernel)
theorem fl_M_20 : Cond.fieldLink "EqualTermsModel" 20 "EqualTermsModel" "sizes" "[I" ∈ et_W := et_in 688 (by decide +kernel) (by decide +kernel)
theorem fl_M_119 : Cond.fieldLink "EqualTermsModel" 119 "EqualTermsModel" "nodes" "I" ∈ et_W := et_in 689 (by decide +kernel) (by decide +kernel)
theorem fl_M_126 : Cond.fieldLink "EqualTermsModel" 126 "EqualTermsModel" "classes" "I" ∈ et_W := et_in 690 (by decide +kernel) (by decide +kernel)
theorem fl_M_23 : Cond.fieldLink "EqualTermsModel" 23 "EqualTermsModel" "sign" "[I" ∈ et_W := et_in 691 (by decide +kernel) (by decide +kernel)
theorem fl_M_26 : Cond.fieldLink "EqualTermsModel" 26 "EqualTermsModel" "first" "[I" ∈ et_W := et_in 692 (by decide +kernel) (by decide +kernel)
theorem fl_M_29 : Cond.fieldLink "EqualTermsModel" 29 "EqualTermsModel" "second" "[I" ∈ et_W := et_in 693 (by decide +kernel) (by decide +kernel)
theorem fl_M_32 : Cond.fieldLink "EqualTermsModel" 32 "EqualTermsModel" "owner" "[I" ∈ et_W := et_in 694 (by decide +kernel) (by decide +kernel)
theorem fl_M_35 : Cond.fieldLink "EqualTermsModel" 35 "EqualTermsModel" "label" "[I" ∈ et_W := et_in 695 (by decide +kernel) (by decide +kernel)
theorem fl_M_38 : Cond.fieldLink "EqualTermsModel" 38 "EqualTermsModel" "renamed" "[I" ∈ et_W := et_in 696 (by decide +kernel) (by decide +kernel)
theorem fl_M_139 : Cond.fieldLink "EqualTermsModel" 139 "EqualTermsModel" "united" "Z" ∈ et_W := et_in 697 (by decide +kernel) (by decide +kernel)
theorem fl_M_41 : Cond.fieldLink "EqualTermsModel" 41 "EqualTermsModel" "row" "[I" ∈ et_W := et_in 698 (by decide +kernel) (by decide +kernel)
theorem fl_M_129 : Cond.fieldLink "EqualTermsModel" 129 "EqualTermsModel" "rowSize" "I" ∈ et_W := et_in 699 (by decide +kernel) (by decide +kernel)
theorem fl_M_44 : Cond.fieldLink "EqualTermsModel" 44 "EqualTermsModel" "variable" "[I" ∈ et_W := et_in 700 (by decide +kernel) (by decide +kernel)
theorem fl_M_47 : Cond.fieldLink "EqualTermsModel" 47 "EqualTermsModel" "leaf" "[I" ∈ et_W := et_in 701 (by decide +kernel) (by decide +kernel)
theorem fl_M_50 : Cond.fieldLink "EqualTermsModel" 50 "EqualTermsModel" "unary" "[I" ∈ et_W := et_in 702 (by decide +kernel) (by decide +kernel)
theorem fl_M_53 : Cond.fieldLink "EqualTermsModel" 53 "EqualTermsModel" "binary" "[I" ∈ et_W := et_in 703 (by decide +kernel) (by decide +kernel)
theorem fl_M_56 : Cond.fieldLink "EqualTermsModel" 56 "EqualTermsModel" "prices" "[I" ∈ et_W := et_in 704 (by decide +kernel) (by decide +kernel)
theorem fl_M_59 : Cond.fieldLink "EqualTermsModel" 59 "EqualTermsModel" "cost" "[J" ∈ et_W := et_in 705 (by decide +kernel) (by decide +kernel)
theorem fl_M_63 : Cond.fieldLink "EqualTermsModel" 63 "EqualTermsModel" "size" "[J" ∈ et_W := et_in 706 (by decide +kernel) (by decide +kernel)
theorem fl_M_66 : Cond.fieldLink "EqualTermsModel" 66 "EqualTermsModel" "best" "[I" ∈ et_W := et_in 707 (by decide +kernel) (by decide +kernel)
theorem fl_M_69 : Cond.fieldLink "EqualTermsModel" 69 "EqualTermsModel" "draft" "[I" ∈ et_W := et_in 708 (by decide +kernel) (by decide +kernel)
theorem fl_M_203 : Cond.fieldLink "EqualTermsModel" 203 "EqualTermsModel" "draftCost" "J" ∈ et_W := et_in 709 (by decide +kernel) (by decide +kernel)
theorem fl_M_211 : Cond.fieldLink "EqualTermsModel" 211 "EqualTermsModel" "draftSize" "J" ∈ et_W := et_in 710 (by decide +kernel) (by decide +kernel)
theorem lk_L_73 : et_lk "EqualTermsLaw" 73 (Y_M_thrown).1 := Or.inl (et_in 778 (by decide +kernel) (by decide +kernel))
theorem lk_L_54 : et_lk "EqualTermsLaw" 54 (Y_M_type).1 := Or.inl (et_in 782 (by decide +kernel) (by decide +kernel))
theorem lk_M_75 : et_lk "EqualTermsModel" 75 (Y_M_within).1 := Or.inl (et_in 786 (by decide +kernel) (by decide +kernel))
theorem kl_M_82 : Cond.constantLong "EqualTermsModel" 82 255 ∈ et_W := et_in 789 (by decide +kernel) (by decide +kernel)
theorem kl_M_84 : Cond.constantLong "EqualTermsModel" 84 33 ∈ et_W := et_in 790 (by decide +kernel) (by decide +kernel)
theorem kl_M_86 : Cond.constantLong "EqualTermsModel" 86 126 ∈ et_W := et_in 791 (by decide +kernel) (by decide +kernel)
theorem lk_L_58 : et_lk "EqualTermsLaw" 58 (Y_M_wipe).1 := Or.inl (et_in 792 (by decide +kernel) (by decide +kernel))
theorem lk_L_62 : et_lk "EqualTermsLaw" 62 (Y_M_character).1 := Or.inl (et_in 796 (by decide +kernel) (by decide +kernel))
theorem lk_L_66 : et_lk "EqualTermsLaw" 66 (Y_M_place).1 := Or.inl (et_in 800 (by decide +kernel) (by decide +kernel))
theorem lk_L_72 : et_lk "EqualTermsLaw" 72 (Y_M_rule).1 := Or.inl (et_in 804 (by decide +kernel) (by decide +kernel))
theorem lk_M_109 : et_lk "EqualTermsModel" 109 (Y_M_readBoth).1 := Or.inl (et_in 808 (by decide +kernel) (by decide +kernel))
theorem lk_M_105 : et_lk "EqualTermsModel" 105 (Y_M_readSide).1 := Or.inl (et_in 812 (by decide +kernel) (by decide +kernel))
theorem lk_M_94 : et_lk "EqualTermsModel" 94 (Y_M_fail).1 := Or.inl (et_in 816 (by decide +kernel) (by decide +kernel))
theorem lk_M_98 : et_lk "EqualTermsModel" 98 (Y_M_takes).1 := Or.inl (et_in 820 (by decide +kernel) (by decide +kernel))
theorem lk_M_116 : et_lk "EqualTermsModel" 116 (Y_M_refuse).1 := Or.inl (et_in 823 (by decide +kernel) (by decide +kernel))
theorem lk_L_78 : et_lk "EqualTermsLaw" 78 (Y_M_add).1 := Or.inl (et_in 827 (by decide +kernel) (by decide +kernel))
theorem lk_M_157 : et_lk "EqualTermsModel" 157 (Y_M_readTerm).1 := Or.inl (et_in 831 (by decide +kernel) (by decide +kernel))
theorem lk_M_160 : et_lk "EqualTermsModel" 160 (Y_M_workText).1 := Or.inl (et_in 835 (by decide +kernel) (by decide +kernel))
theorem lk_M_136 : et_lk "EqualTermsModel" 136 (Y_M_push).1 := Or.inl (et_in 839 (by decide +kernel) (by decide +kernel))
theorem lk_M_132 : et_lk "EqualTermsModel" 132 (Y_M_classOf).1 := Or.inl (et_in 843 (by decide +kernel) (by decide +kernel))
theorem lk_M_122 : et_lk "EqualTermsModel" 122 (Y_M_findNode).1 := Or.inl (et_in 847 (by decide +kernel) (by decide +kernel))
theorem lk_M_163 : et_lk "EqualTermsModel" 163 (Y_M_cut).1 := Or.inl (et_in 851 (by decide +kernel) (by decide +kernel))
theorem lk_L_81 : et_lk "EqualTermsLaw" 81 (Y_M_unite).1 := Or.inl (et_in 855 (by decide +kernel) (by decide +kernel))
theorem lk_M_146 : et_lk "EqualTermsModel" 146 (Y_M_joinClasses).1 := Or.inl (et_in 859 (by decide +kernel) (by decide +kernel))
theorem lk_M_166 : et_lk "EqualTermsModel" 166 (Y_M_close).1 := Or.inl (et_in 863 (by decide +kernel) (by decide +kernel))
theorem lk_M_143 : et_lk "EqualTermsModel" 143 (Y_M_labelOf).1 := Or.inl (et_in 867 (by decide +kernel) (by decide +kernel))
theorem lk_M_150 : et_lk "EqualTermsModel" 150 (Y_M_removeNode).1 := Or.inl (et_in 871 (by decide +kernel) (by decide +kernel))
theorem lk_M_154 : et_lk "EqualTermsModel" 154 (Y_M_renumber).1 := Or.inl (et_in 875 (by decide +kernel) (by decide +kernel))
theorem lk_L_84 : et_lk "EqualTermsLaw" 84 (Y_M_same).1 := Or.inl (et_in 879 (by decide +kernel) (by decide +kernel))
theorem lk_L_88 : et_lk "EqualTermsLaw" 88 (Y_M_price).1 := Or.inl (et_in 883 (by decide +kernel) (by decide +kernel))
theorem kc_M_169 : Cond.constant "EqualTermsModel" 169 1000000000 ∈ et_W := et_in 887 (by decide +kernel) (by decide +kernel)
theorem lk_L_92 : et_lk "EqualTermsLaw" 92 (Y_M_rounds).1 := Or.inl (et_in 888 (by decide +kernel) (by decide +kernel))
theorem lk_M_192 : et_lk "EqualTermsModel" 192 (Y_M_oneRound).1 := Or.inl (et_in 892 (by decide +kernel) (by decide +kernel))
theorem lk_M_186 : et_lk "EqualTermsModel" 186 (Y_M_fillTables).1 := Or.inl (et_in 896 (by decide +kernel) (by decide +kernel))
theorem lk_M_170 : et_lk "EqualTermsModel" 170 (Y_M_kindOf).1 := Or.inl (et_in 900 (by decide +kernel) (by decide +kernel))
theorem lk_M_189 : et_lk "EqualTermsModel" 189 (Y_M_fit).1 := Or.inl (et_in 903 (by decide +kernel) (by decide +kernel))
theorem lk_M_173 : et_lk "EqualTermsModel" 173 (Y_M_variablesOf).1 := Or.inl (et_in 907 (by decide +kernel) (by decide +kernel))
theorem lk_M_176 : et_lk "EqualTermsModel" 176 (Y_M_tabled).1 := Or.inl (et_in 911 (by decide +kernel) (by decide +kernel))
theorem lk_M_179 : et_lk "EqualTermsModel" 179 (Y_M_workSide).1 := Or.inl (et_in 915 (by decide +kernel) (by decide +kernel))
theorem lk_M_183 : et_lk "EqualTermsModel" 183 (Y_M_nextChoice).1 := Or.inl (et_in 919 (by decide +kernel) (by decide +kernel))
theorem lk_L_96 : et_lk "EqualTermsLaw" 96 (Y_M_nodes).1 := Or.inl (et_in 923 (by decide +kernel) (by decide +kernel))
theorem lk_L_100 : et_lk "EqualTermsLaw" 100 (Y_M_classes).1 := Or.inl (et_in 927 (by decide +kernel) (by decide +kernel))
theorem lk_L_103 : et_lk "EqualTermsLaw" 103 (Y_M_members).1 := Or.inl (et_in 931 (by decide +kernel) (by decide +kernel))
theorem lk_M_196 : et_lk "EqualTermsModel" 196 (Y_M_asked).1 := Or.inl (et_in 935 (by decide +kernel) (by decide +kernel))
theorem lk_L_106 : et_lk "EqualTermsLaw" 106 (Y_M_cost).1 := Or.inl (et_in 939 (by decide +kernel) (by decide +kernel))
theorem kl_M_223 : Cond.constantLong "EqualTermsModel" 223 (-1) ∈ et_W := et_in 943 (by decide +kernel) (by decide +kernel)
theorem lk_M_225 : et_lk "EqualTermsModel" 225 (Y_M_findBest).1 := Or.inl (et_in 944 (by decide +kernel) (by decide +kernel))
theorem kl_M_201 : Cond.constantLong "EqualTermsModel" 201 4611686018427387905 ∈ et_W := et_in 948 (by decide +kernel) (by decide +kernel)
theorem lk_M_216 : et_lk "EqualTermsModel" 216 (Y_M_append).1 := Or.inl (et_in 949 (by decide +kernel) (by decide +kernel))
theorem lk_M_207 : et_lk "EqualTermsModel" 207 (Y_M_sum).1 := Or.inl (et_in 953 (by decide +kernel) (by decide +kernel))
theorem kl_M_199 : Cond.constantLong "EqualTermsModel" 199 4611686018427387904 ∈ et_W := et_in 956 (by decide +kernel) (by decide +kernel)
theorem kl_M_214 : Cond.constantLong "EqualTermsModel" 214 60 ∈ et_W := et_in 957 (by decide +kernel) (by decide +kernel)
theorem lk_M_219 : et_lk "EqualTermsModel" 219 (Y_M_isBetter).1 := Or.inl (et_in 958 (by decide +kernel) (by decide +kernel))
theorem kl_M_228 : Cond.constantLong "EqualTermsModel" 228 (-3) ∈ et_W := et_in 962 (by decide +kernel) (by decide +kernel)
theorem lk_L_109 : et_lk "EqualTermsLaw" 109 (Y_M_best).1 := Or.inl (et_in 963 (by decide +kernel) (by decide +kernel))
theorem kl_L_48 : Cond.constantLong "EqualTermsLaw" 48 4294967295 ∈ et_W := et_in 967 (by decide +kernel) (by decide +kernel)
theorem len_E_init : (parseMethodDescriptor (Y_E_init).1.desc).map (fun d => d.parameters.length) = some 0 := by decide +kernel
theorem len_O_init : (parseMethodDescriptor (Y_O_init).1.desc).map (fun d => d.parameters.length) = some 0 := by decide +kernel
theorem len_T_init : (parseMethodDescriptor (Y_T_init).1.desc).map (fun d => d.parameters.length) = some 0 := by decide +kernel
theorem len_G_init : (parseMethodDescriptor (Y_G_init).1.desc).map (fun d => d.parameters.length) = some 0 := by decide +kernel
theorem len_K_init : (parseMethodDescriptor (Y_K_init).1.desc).map (fun d => d.parameters.length) = some 1 := by decide +kernel
theorem len_R_init : (parseMethodDescriptor (Y_R_init).1.desc).map (fun d => d.parameters.length) = some 2 := by decide +kernel
theorem len_C_init : (parseMethodDescriptor (Y_C_init).1.desc).map (fun d => d.parameters.length) = some 1 := by decide +kernel
theorem len_A_fill_II : (parseMethodDescriptor (Y_A_fill_II).1.desc).map (fun d => d.parameters.length) = some 2 := by decide +kernel
theorem len_E_type : (parseMethodDescriptor (Y_E_type).1.desc).map (fun d => d.parameters.length) = some 2 := by decide +kernel
theorem len_T_append : (parseMethodDescriptor (Y_T_append).1.desc).map (fun d => d.parameters.length) = some 2 := by decide +kernel
theorem len_T_byteAt : (parseMethodDescriptor (Y_T_byteAt).1.desc).map (fun d => d.parameters.length) = some 2 := by decide +kernel
theorem len_E_wipe : (parseMethodDescriptor (Y_E_wipe).1.desc).map (fun d => d.parameters.length) = some 0 := by decide +kernel
theorem len_T_clear : (parseMethodDescriptor (Y_T_clear).1.desc).map (fun d => d.parameters.length) = some 0 := by decide +kernel
theorem len_E_character : (parseMethodDescriptor (Y_E_character).1.desc).map (fun d => d.parameters.length) = some 1 := by decide +kernel
theorem len_E_place : (parseMethodDescriptor (Y_E_place).1.desc).map (fun d => d.parameters.length) = some 0 := by decide +kernel
theorem len_E_nodes : (parseMethodDescriptor (Y_E_nodes).1.desc).map (fun d => d.parameters.length) = some 0 := by decide +kernel
theorem len_E_classes : (parseMethodDescriptor (Y_E_classes).1.desc).map (fun d => d.parameters.length) = some 0 := by decide +kernel
theorem len_L_rule : (parseMethodDescriptor (Y_L_rule).1.desc).map (fun d => d.parameters.length) = some 2 := by decide +kernel
theorem len_E_rule : (parseMethodDescriptor (Y_E_rule).1.desc).map (fun d => d.parameters.length) = some 0 := by decide +kernel
theorem len_T_isRule : (parseMethodDescriptor (Y_T_isRule).1.desc).map (fun d => d.parameters.length) = some 0 := by decide +kernel
theorem len_T_firstWrong : (parseMethodDescriptor (Y_T_firstWrong).1.desc).map (fun d => d.parameters.length) = some 2 := by decide +kernel
theorem len_T_partsInRule : (parseMethodDescriptor (Y_T_partsInRule).1.desc).map (fun d => d.parameters.length) = some 1 := by decide +kernel
theorem len_S_isVariable : (parseMethodDescriptor (Y_S_isVariable).1.desc).map (fun d => d.parameters.length) = some 1 := by decide +kernel
theorem len_T_inFirstSide : (parseMethodDescriptor (Y_T_inFirstSide).1.desc).map (fun d => d.parameters.length) = some 1 := by decide +kernel
theorem len_S_partsInPattern : (parseMethodDescriptor (Y_S_partsInPattern).1.desc).map (fun d => d.parameters.length) = some 1 := by decide +kernel
theorem len_S_parts : (parseMethodDescriptor (Y_S_parts).1.desc).map (fun d => d.parameters.length) = some 1 := by decide +kernel
theorem len_T_noteWrong : (parseMethodDescriptor (Y_T_noteWrong).1.desc).map (fun d => d.parameters.length) = some 1 := by decide +kernel
theorem len_U_init : (parseMethodDescriptor (Y_U_init).1.desc).map (fun d => d.parameters.length) = some 1 := by decide +kernel
theorem len_A_copyOf : (parseMethodDescriptor (Y_A_copyOf).1.desc).map (fun d => d.parameters.length) = some 2 := by decide +kernel
theorem len_H_min : (parseMethodDescriptor (Y_H_min).1.desc).map (fun d => d.parameters.length) = some 2 := by decide +kernel
theorem len_U_endOfPattern : (parseMethodDescriptor (Y_U_endOfPattern).1.desc).map (fun d => d.parameters.length) = some 2 := by decide +kernel
theorem len_L_add : (parseMethodDescriptor (Y_L_add).1.desc).map (fun d => d.parameters.length) = some 2 := by decide +kernel
theorem len_E_add : (parseMethodDescriptor (Y_E_add).1.desc).map (fun d => d.parameters.length) = some 0 := by decide +kernel
theorem len_E_demandTerm : (parseMethodDescriptor (Y_E_demandTerm).1.desc).map (fun d => d.parameters.length) = some 0 := by decide +kernel
theorem len_T_isTerm : (parseMethodDescriptor (Y_T_isTerm).1.desc).map (fun d => d.parameters.length) = some 0 := by decide +kernel
theorem len_K_classOf : (parseMethodDescriptor (Y_K_classOf).1.desc).map (fun d => d.parameters.length) = some 4 := by decide +kernel
theorem len_G_homeOf : (parseMethodDescriptor (Y_G_homeOf).1.desc).map (fun d => d.parameters.length) = some 4 := by decide +kernel
theorem len_G_nodeAmong : (parseMethodDescriptor (Y_G_nodeAmong).1.desc).map (fun d => d.parameters.length) = some 4 := by decide +kernel
theorem len_G_putNode : (parseMethodDescriptor (Y_G_putNode).1.desc).map (fun d => d.parameters.length) = some 5 := by decide +kernel
theorem len_G_goBack : (parseMethodDescriptor (Y_G_goBack).1.desc).map (fun d => d.parameters.length) = some 2 := by decide +kernel
theorem len_G_nameAllByNumber : (parseMethodDescriptor (Y_G_nameAllByNumber).1.desc).map (fun d => d.parameters.length) = some 0 := by decide +kernel
theorem len_L_unite : (parseMethodDescriptor (Y_L_unite).1.desc).map (fun d => d.parameters.length) = some 2 := by decide +kernel
theorem len_E_unite : (parseMethodDescriptor (Y_E_unite).1.desc).map (fun d => d.parameters.length) = some 0 := by decide +kernel
theorem len_E_demandEquation : (parseMethodDescriptor (Y_E_demandEquation).1.desc).map (fun d => d.parameters.length) = some 0 := by decide +kernel
theorem len_T_isEquation : (parseMethodDescriptor (Y_T_isEquation).1.desc).map (fun d => d.parameters.length) = some 0 := by decide +kernel
theorem len_G_join : (parseMethodDescriptor (Y_G_join).1.desc).map (fun d => d.parameters.length) = some 2 := by decide +kernel
theorem len_G_settle : (parseMethodDescriptor (Y_G_settle).1.desc).map (fun d => d.parameters.length) = some 0 := by decide +kernel
theorem len_G_rename : (parseMethodDescriptor (Y_G_rename).1.desc).map (fun d => d.parameters.length) = some 0 := by decide +kernel
theorem len_G_mergeTwins : (parseMethodDescriptor (Y_G_mergeTwins).1.desc).map (fun d => d.parameters.length) = some 0 := by decide +kernel
theorem len_G_renumber : (parseMethodDescriptor (Y_G_renumber).1.desc).map (fun d => d.parameters.length) = some 0 := by decide +kernel
theorem len_L_same : (parseMethodDescriptor (Y_L_same).1.desc).map (fun d => d.parameters.length) = some 2 := by decide +kernel
theorem len_E_same : (parseMethodDescriptor (Y_E_same).1.desc).map (fun d => d.parameters.length) = some 0 := by decide +kernel
theorem len_L_price : (parseMethodDescriptor (Y_L_price).1.desc).map (fun d => d.parameters.length) = some 3 := by decide +kernel
theorem len_E_price : (parseMethodDescriptor (Y_E_price).1.desc).map (fun d => d.parameters.length) = some 2 := by decide +kernel
theorem len_L_rounds : (parseMethodDescriptor (Y_L_rounds).1.desc).map (fun d => d.parameters.length) = some 3 := by decide +kernel
theorem len_E_rounds : (parseMethodDescriptor (Y_E_rounds).1.desc).map (fun d => d.parameters.length) = some 1 := by decide +kernel
theorem len_R_fitAll : (parseMethodDescriptor (Y_R_fitAll).1.desc).map (fun d => d.parameters.length) = some 2 := by decide +kernel
theorem len_R_listNodes : (parseMethodDescriptor (Y_R_listNodes).1.desc).map (fun d => d.parameters.length) = some 0 := by decide +kernel
theorem len_R_fitFrom : (parseMethodDescriptor (Y_R_fitFrom).1.desc).map (fun d => d.parameters.length) = some 2 := by decide +kernel
theorem len_R_joinSides : (parseMethodDescriptor (Y_R_joinSides).1.desc).map (fun d => d.parameters.length) = some 1 := by decide +kernel
theorem len_R_seatParts : (parseMethodDescriptor (Y_R_seatParts).1.desc).map (fun d => d.parameters.length) = some 3 := by decide +kernel
theorem len_L_members : (parseMethodDescriptor (Y_L_members).1.desc).map (fun d => d.parameters.length) = some 2 := by decide +kernel
theorem len_E_members : (parseMethodDescriptor (Y_E_members).1.desc).map (fun d => d.parameters.length) = some 0 := by decide +kernel
theorem len_E_takeTerm : (parseMethodDescriptor (Y_E_takeTerm).1.desc).map (fun d => d.parameters.length) = some 0 := by decide +kernel
theorem len_G_sizeOf : (parseMethodDescriptor (Y_G_sizeOf).1.desc).map (fun d => d.parameters.length) = some 1 := by decide +kernel
theorem len_L_cost : (parseMethodDescriptor (Y_L_cost).1.desc).map (fun d => d.parameters.length) = some 2 := by decide +kernel
theorem len_E_cost : (parseMethodDescriptor (Y_E_cost).1.desc).map (fun d => d.parameters.length) = some 0 := by decide +kernel
theorem len_C_weigh : (parseMethodDescriptor (Y_C_weigh).1.desc).map (fun d => d.parameters.length) = some 0 := by decide +kernel
theorem len_A_fill_JJ : (parseMethodDescriptor (Y_A_fill_JJ).1.desc).map (fun d => d.parameters.length) = some 2 := by decide +kernel
theorem len_C_weighNode : (parseMethodDescriptor (Y_C_weighNode).1.desc).map (fun d => d.parameters.length) = some 1 := by decide +kernel
theorem len_C_costThrough : (parseMethodDescriptor (Y_C_costThrough).1.desc).map (fun d => d.parameters.length) = some 1 := by decide +kernel
theorem len_C_sum : (parseMethodDescriptor (Y_C_sum).1.desc).map (fun d => d.parameters.length) = some 2 := by decide +kernel
theorem len_C_lengthThrough : (parseMethodDescriptor (Y_C_lengthThrough).1.desc).map (fun d => d.parameters.length) = some 1 := by decide +kernel
theorem len_L_best : (parseMethodDescriptor (Y_L_best).1.desc).map (fun d => d.parameters.length) = some 2 := by decide +kernel
theorem len_E_best : (parseMethodDescriptor (Y_E_best).1.desc).map (fun d => d.parameters.length) = some 0 := by decide +kernel
theorem len_C_spell : (parseMethodDescriptor (Y_C_spell).1.desc).map (fun d => d.parameters.length) = some 1 := by decide +kernel
theorem len_C_isBest : (parseMethodDescriptor (Y_C_isBest).1.desc).map (fun d => d.parameters.length) = some 1 := by decide +kernel
theorem len_C_spellNode : (parseMethodDescriptor (Y_C_spellNode).1.desc).map (fun d => d.parameters.length) = some 2 := by decide +kernel
theorem len_C_appendTerm : (parseMethodDescriptor (Y_C_appendTerm).1.desc).map (fun d => d.parameters.length) = some 2 := by decide +kernel
theorem len_C_trialComesBefore : (parseMethodDescriptor (Y_C_trialComesBefore).1.desc).map (fun d => d.parameters.length) = some 2 := by decide +kernel
theorem len_T_become : (parseMethodDescriptor (Y_T_become).1.desc).map (fun d => d.parameters.length) = some 2 := by decide +kernel
theorem len_M_init : (parseMethodDescriptor (Y_M_init).1.desc).map (fun d => d.parameters.length) = some 0 := by decide +kernel
theorem len_M_thrown : (parseMethodDescriptor (Y_M_thrown).1.desc).map (fun d => d.parameters.length) = some 0 := by decide +kernel
theorem len_M_type : (parseMethodDescriptor (Y_M_type).1.desc).map (fun d => d.parameters.length) = some 2 := by decide +kernel
theorem len_M_within : (parseMethodDescriptor (Y_M_within).1.desc).map (fun d => d.parameters.length) = some 3 := by decide +kernel
theorem len_M_wipe : (parseMethodDescriptor (Y_M_wipe).1.desc).map (fun d => d.parameters.length) = some 0 := by decide +kernel
theorem len_M_character : (parseMethodDescriptor (Y_M_character).1.desc).map (fun d => d.parameters.length) = some 1 := by decide +kernel
theorem len_M_place : (parseMethodDescriptor (Y_M_place).1.desc).map (fun d => d.parameters.length) = some 0 := by decide +kernel
theorem len_M_rule : (parseMethodDescriptor (Y_M_rule).1.desc).map (fun d => d.parameters.length) = some 0 := by decide +kernel
theorem len_M_readBoth : (parseMethodDescriptor (Y_M_readBoth).1.desc).map (fun d => d.parameters.length) = some 2 := by decide +kernel
theorem len_M_readSide : (parseMethodDescriptor (Y_M_readSide).1.desc).map (fun d => d.parameters.length) = some 2 := by decide +kernel
theorem len_M_fail : (parseMethodDescriptor (Y_M_fail).1.desc).map (fun d => d.parameters.length) = some 0 := by decide +kernel
theorem len_M_takes : (parseMethodDescriptor (Y_M_takes).1.desc).map (fun d => d.parameters.length) = some 1 := by decide +kernel
theorem len_M_refuse : (parseMethodDescriptor (Y_M_refuse).1.desc).map (fun d => d.parameters.length) = some 1 := by decide +kernel
theorem len_M_add : (parseMethodDescriptor (Y_M_add).1.desc).map (fun d => d.parameters.length) = some 0 := by decide +kernel
theorem len_M_readTerm : (parseMethodDescriptor (Y_M_readTerm).1.desc).map (fun d => d.parameters.length) = some 0 := by decide +kernel
theorem len_M_workText : (parseMethodDescriptor (Y_M_workText).1.desc).map (fun d => d.parameters.length) = some 3 := by decide +kernel
theorem len_M_push : (parseMethodDescriptor (Y_M_push).1.desc).map (fun d => d.parameters.length) = some 2 := by decide +kernel
theorem len_M_classOf : (parseMethodDescriptor (Y_M_classOf).1.desc).map (fun d => d.parameters.length) = some 4 := by decide +kernel
theorem len_M_findNode : (parseMethodDescriptor (Y_M_findNode).1.desc).map (fun d => d.parameters.length) = some 3 := by decide +kernel
theorem len_M_cut : (parseMethodDescriptor (Y_M_cut).1.desc).map (fun d => d.parameters.length) = some 2 := by decide +kernel
theorem len_M_unite : (parseMethodDescriptor (Y_M_unite).1.desc).map (fun d => d.parameters.length) = some 0 := by decide +kernel
theorem len_M_joinClasses : (parseMethodDescriptor (Y_M_joinClasses).1.desc).map (fun d => d.parameters.length) = some 2 := by decide +kernel
theorem len_M_close : (parseMethodDescriptor (Y_M_close).1.desc).map (fun d => d.parameters.length) = some 0 := by decide +kernel
theorem len_M_labelOf : (parseMethodDescriptor (Y_M_labelOf).1.desc).map (fun d => d.parameters.length) = some 1 := by decide +kernel
theorem len_M_removeNode : (parseMethodDescriptor (Y_M_removeNode).1.desc).map (fun d => d.parameters.length) = some 1 := by decide +kernel
theorem len_M_renumber : (parseMethodDescriptor (Y_M_renumber).1.desc).map (fun d => d.parameters.length) = some 0 := by decide +kernel
theorem len_M_same : (parseMethodDescriptor (Y_M_same).1.desc).map (fun d => d.parameters.length) = some 0 := by decide +kernel
theorem len_M_price : (parseMethodDescriptor (Y_M_price).1.desc).map (fun d => d.parameters.length) = some 2 := by decide +kernel
theorem len_M_rounds : (parseMethodDescriptor (Y_M_rounds).1.desc).map (fun d => d.parameters.length) = some 1 := by decide +kernel
theorem len_M_oneRound : (parseMethodDescriptor (Y_M_oneRound).1.desc).map (fun d => d.parameters.length) = some 0 := by decide +kernel
theorem len_M_fillTables : (parseMethodDescriptor (Y_M_fillTables).1.desc).map (fun d => d.parameters.length) = some 0 := by decide +kernel
theorem len_M_kindOf : (parseMethodDescriptor (Y_M_kindOf).1.desc).map (fun d => d.parameters.length) = some 1 := by decide +kernel
theorem len_M_fit : (parseMethodDescriptor (Y_M_fit).1.desc).map (fun d => d.parameters.length) = some 2 := by decide +kernel
theorem len_M_variablesOf : (parseMethodDescriptor (Y_M_variablesOf).1.desc).map (fun d => d.parameters.length) = some 1 := by decide +kernel
theorem len_M_tabled : (parseMethodDescriptor (Y_M_tabled).1.desc).map (fun d => d.parameters.length) = some 1 := by decide +kernel
theorem len_M_workSide : (parseMethodDescriptor (Y_M_workSide).1.desc).map (fun d => d.parameters.length) = some 2 := by decide +kernel
theorem len_M_nextChoice : (parseMethodDescriptor (Y_M_nextChoice).1.desc).map (fun d => d.parameters.length) = some 2 := by decide +kernel
theorem len_M_nodes : (parseMethodDescriptor (Y_M_nodes).1.desc).map (fun d => d.parameters.length) = some 0 := by decide +kernel
theorem len_M_classes : (parseMethodDescriptor (Y_M_classes).1.desc).map (fun d => d.parameters.length) = some 0 := by decide +kernel
theorem len_M_members : (parseMethodDescriptor (Y_M_members).1.desc).map (fun d => d.parameters.length) = some 0 := by decide +kernel
theorem len_M_asked : (parseMethodDescriptor (Y_M_asked).1.desc).map (fun d => d.parameters.length) = some 0 := by decide +kernel
theorem len_M_cost : (parseMethodDescriptor (Y_M_cost).1.desc).map (fun d => d.parameters.length) = some 0 := by decide +kernel
theorem len_M_findBest : (parseMethodDescriptor (Y_M_findBest).1.desc).map (fun d => d.parameters.length) = some 0 := by decide +kernel
theorem len_M_append : (parseMethodDescriptor (Y_M_append).1.desc).map (fun d => d.parameters.length) = some 1 := by decide +kernel
theorem len_M_sum : (parseMethodDescriptor (Y_M_sum).1.desc).map (fun d => d.parameters.length) = some 2 := by decide +kernel
theorem len_M_isBetter : (parseMethodDescriptor (Y_M_isBetter).1.desc).map (fun d => d.parameters.length) = some 1 := by decide +kernel
theorem len_M_best : (parseMethodDescriptor (Y_M_best).1.desc).map (fun d => d.parameters.length) = some 0 := by decide +kernel
theorem ca_0 : Cond.castable (et_exn 0) (et_exn 0) ∈ et_NST := by decide +kernel
theorem thr_0 : et_thr "EqualTerms" 83 (et_exn 0) := by unfold et_thr; decide +kernel
theorem ca_1 : Cond.castable (et_exn 1) (et_exn 1) ∈ et_NST := by decide +kernel
theorem thr_1 : et_thr "EqualTerms" 90 (et_exn 1) := by unfold et_thr; decide +kernel
theorem ob_inst : Cond.instanceMethod Lib.objectInit ∈ et_W := et_in 75 (by decide +kernel) (by decide +kernel)
set_option maxRecDepth 100000 in
theorem ob_code : Cond.code Lib.objectInit ⟨#[0xb1]⟩ 1 none ∈ et_W := et_in 76 rfl rfl
theorem sy_nat : Cond.native arraycopyName ∈ et_W := et_in 430 (by decide +kernel) (by decide +kernel)
theorem sy_stat : Cond.static arraycopyName ∈ et_W := et_in 429 (by decide +kernel) (by decide +kernel)

/-! methods, and what the tables say; by program -/
theorem wt (i : Nat) {w : Cond} (h : lw_tbl[i]? = some w) (hg : goodWord w = true) : w ∈ wtab := List.mem_filter.mpr ⟨List.mem_of_getElem? h, hg⟩
theorem wts (is : List Nat) {l : List Cond} (h : is.map (fun i => lw_tbl[i]?) = l.map some) (hg : l.all goodWord = true) : ∀ w ∈ l, w ∈ wtab := by
  intro w hw
  refine List.mem_filter.mpr ⟨?_, List.all_eq_true.mp hg w hw⟩
  have h1 : some w ∈ is.map (fun i => lw_tbl[i]?) := by rw [h]; exact List.mem_map_of_mem hw
  obtain ⟨i, -, hi⟩ := List.mem_map.mp h1
  exact List.mem_of_getElem? hi
theorem ci_0 : CI 0 RX0 TX0 4 tyX0 := ⟨rfl, wts [232, 234, 236, 238] (by decide +kernel) (by decide +kernel), tyX0_ok, nmX0, by decide +kernel, by decide⟩
theorem ci_1 : CI 1 RX1 TX1 2 tyX1 := ⟨rfl, wts [303, 305] (by decide +kernel) (by decide +kernel), tyX1_ok, nmX1, by decide +kernel, by decide⟩
theorem ci_2 : CI 2 RX2 TX2 10 tyX2 := ⟨rfl, wts [340, 342, 344, 346, 348, 350, 352, 354, 356, 358] (by decide +kernel) (by decide +kernel), tyX2_ok, nmX2, by decide +kernel, by decide⟩
theorem ci_3 : CI 3 RX3 TX3 8 tyX3 := ⟨rfl, wts [263, 265, 267, 269, 271, 273, 275, 277] (by decide +kernel) (by decide +kernel), tyX3_ok, nmX3, by decide +kernel, by decide⟩
theorem ci_4 : CI 4 RX4 TX4 13 tyX4 := ⟨rfl, wts [164, 166, 168, 170, 172, 174, 176, 178, 180, 182, 184, 186, 188] (by decide +kernel) (by decide +kernel), tyX4_ok, nmX4, by decide +kernel, by decide⟩
theorem ci_5 : CI 5 RX5 TX5 5 tyX5 := ⟨rfl, wts [115, 117, 119, 121, 123] (by decide +kernel) (by decide +kernel), tyX5_ok, nmX5, by decide +kernel, by decide⟩
theorem ci_6 : CI 6 RX6 TX6 2 tyX6 := ⟨rfl, wts [289, 291] (by decide +kernel) (by decide +kernel), tyX6_ok, nmX6, by decide +kernel, by decide⟩
theorem ci_7 : CI 7 RX7 TX7 2 tyX7 := ⟨rfl, wts [94, 96] (by decide +kernel) (by decide +kernel), tyX7_ok, nmX7, by decide +kernel, by decide⟩
theorem ci_8 : CI 8 RX8 TX8 4 tyX8 := ⟨rfl, wts [218, 220, 222, 224] (by decide +kernel) (by decide +kernel), tyX8_ok, nmX8, by decide +kernel, by decide⟩
theorem ci_9 : CI 9 RX9 TX9 15 tyX9 := ⟨rfl, wts [376, 378, 380, 382, 384, 386, 388, 390, 392, 394, 396, 398, 400, 402, 404] (by decide +kernel) (by decide +kernel), tyX9_ok, nmX9, by decide +kernel, by decide⟩
theorem ci_10 : CI 10 RX10 TX10 49 tyX10 := ⟨rfl, wts [976, 978, 980, 982, 984, 986, 988, 990, 992, 994, 996, 998, 1000, 1002, 1004, 1006, 1008, 1010, 1012, 1014, 1016, 1018, 1020, 1022, 1024, 1026, 1028, 1030, 1032, 1034, 1036, 1038, 1040, 1042, 1044, 1046, 1048, 1050, 1052, 1054, 1056, 1058, 1060, 1062, 1064, 1066, 1068, 1070, 1072] (by decide +kernel) (by decide +kernel), tyX10_ok, nmX10, by decide +kernel, by decide⟩
abbrev M_X9_init : Mt := (yX9_init, cX9_init, 2, none, { frames := 3, cells := 1254, slots := 45117, locals := 61 })
abbrev M_X9_feed : Mt := (yX9_feed, cX9_feed, 6, (some .int), { frames := 1, cells := 0, slots := 0, locals := 22 })
abbrev M_X9_shape : Mt := (yX9_shape, cX9_shape, 5, (some .int), { frames := 9, cells := 0, slots := 0, locals := 200 })
abbrev M_X9_fault : Mt := (yX9_fault, cX9_fault, 2, (some .int), { frames := 0, cells := 0, slots := 0, locals := 0 })
abbrev M_X9_know : Mt := (yX9_know, cX9_know, 4, (some .int), { frames := 4, cells := 0, slots := 0, locals := 89 })
abbrev M_X9_forget : Mt := (yX9_forget, cX9_forget, 5, (some .boolean), { frames := 4, cells := 0, slots := 0, locals := 89 })
abbrev M_X9_name : Mt := (yX9_name, cX9_name, 4, (some .int), { frames := 4, cells := 0, slots := 0, locals := 90 })
abbrev M_X9_readings : Mt := (yX9_readings, cX9_readings, 3, (some .int), { frames := 5, cells := 0, slots := 0, locals := 123 })
abbrev M_X9_cost : Mt := (yX9_cost, cX9_cost, 3, (some .int), { frames := 5, cells := 0, slots := 0, locals := 123 })
abbrev M_X9_kind : Mt := (yX9_kind, cX9_kind, 4, (some .int), { frames := 5, cells := 0, slots := 0, locals := 123 })
abbrev M_X9_look : Mt := (yX9_look, cX9_look, 3, (some .int), { frames := 6, cells := 1, slots := 6, locals := 150 })
abbrev M_X9_order : Mt := (yX9_order, cX9_order, 2, (some .int), { frames := 6, cells := 0, slots := 0, locals := 147 })
abbrev M_X9_sign : Mt := (yX9_sign, cX9_sign, 4, (some .int), { frames := 6, cells := 0, slots := 0, locals := 150 })
abbrev M_X9_agree : Mt := (yX9_agree, cX9_agree, 5, (some .int), { frames := 5, cells := 0, slots := 0, locals := 124 })
abbrev M_X9_father : Mt := (yX9_father, cX9_father, 7, (some .int), { frames := 5, cells := 0, slots := 0, locals := 124 })
abbrev M_X9_table : Mt := (yX9_table, cX9_table, 4, (some .boolean), { frames := 2, cells := 0, slots := 0, locals := 44 })
abbrev M_X9_fallen : Mt := (yX9_fallen, cX9_fallen, 4, (some .int), { frames := 3, cells := 0, slots := 0, locals := 69 })
abbrev M_X9_count : Mt := (yX9_count, cX9_count, 2, (some .int), { frames := 1, cells := 0, slots := 0, locals := 22 })
abbrev M_X9_isLand : Mt := (yX9_isLand, cX9_isLand, 1, (some .boolean), { frames := 0, cells := 0, slots := 0, locals := 0 })
abbrev M_X9_isName : Mt := (yX9_isName, cX9_isName, 2, (some .boolean), { frames := 0, cells := 0, slots := 0, locals := 0 })
abbrev M_X9_isEntry : Mt := (yX9_isEntry, cX9_isEntry, 4, (some .boolean), { frames := 3, cells := 0, slots := 0, locals := 66 })
abbrev M_X9_shapeCount : Mt := (yX9_shapeCount, cX9_shapeCount, 3, (some .int), { frames := 0, cells := 0, slots := 0, locals := 0 })
abbrev M_X9_landChanged : Mt := (yX9_landChanged, cX9_landChanged, 3, none, { frames := 0, cells := 0, slots := 0, locals := 0 })
abbrev M_X9_listReadings : Mt := (yX9_listReadings, cX9_listReadings, 3, none, { frames := 4, cells := 0, slots := 0, locals := 101 })
abbrev M_X9_freshName : Mt := (yX9_freshName, cX9_freshName, 4, (some (.object "NameDesk$Name")), { frames := 4, cells := 0, slots := 0, locals := 101 })
abbrev M_X9_rank : Mt := (yX9_rank, cX9_rank, 4, none, { frames := 5, cells := 0, slots := 0, locals := 124 })
abbrev M_X9_placeInRanking : Mt := (yX9_placeInRanking, cX9_placeInRanking, 3, (some .int), { frames := 0, cells := 0, slots := 0, locals := 0 })
abbrev M_X9_lineOf : Mt := (yX9_lineOf, cX9_lineOf, 7, (some (.object "NameDesk$Line")), { frames := 5, cells := 0, slots := 0, locals := 124 })
abbrev M_X9_putLine : Mt := (yX9_putLine, cX9_putLine, 3, (some (.object "NameDesk$Line")), { frames := 2, cells := 0, slots := 0, locals := 47 })
abbrev M_X9_sameFamily : Mt := (yX9_sameFamily, cX9_sameFamily, 5, (some .boolean), { frames := 2, cells := 0, slots := 0, locals := 44 })
abbrev M_X9_fittingGiven : Mt := (yX9_fittingGiven, cX9_fittingGiven, 6, (some .boolean), { frames := 3, cells := 0, slots := 0, locals := 65 })
abbrev M_X9_isSmall : Mt := (yX9_isSmall, cX9_isSmall, 1, (some .boolean), { frames := 0, cells := 0, slots := 0, locals := 0 })
abbrev M_X9_isBig : Mt := (yX9_isBig, cX9_isBig, 1, (some .boolean), { frames := 0, cells := 0, slots := 0, locals := 0 })
abbrev M_X10_init : Mt := (yX10_init, cX10_init, 2, none, { frames := 1, cells := 37, slots := 26957, locals := 20 })
abbrev M_X10_thrown : Mt := (yX10_thrown, cX10_thrown, 1, (some .int), { frames := 0, cells := 0, slots := 0, locals := 0 })
abbrev M_X10_feed : Mt := (yX10_feed, cX10_feed, 8, (some .int), { frames := 0, cells := 0, slots := 0, locals := 0 })
abbrev M_X10_wrong : Mt := (yX10_wrong, cX10_wrong, 3, (some .boolean), { frames := 0, cells := 0, slots := 0, locals := 0 })
abbrev M_X10_see : Mt := (yX10_see, cX10_see, 1, (some .int), { frames := 0, cells := 0, slots := 0, locals := 0 })
abbrev M_X10_kindOf : Mt := (yX10_kindOf, cX10_kindOf, 1, (some .int), { frames := 0, cells := 0, slots := 0, locals := 0 })
abbrev M_X10_slotsRead : Mt := (yX10_slotsRead, cX10_slotsRead, 4, (some .boolean), { frames := 1, cells := 0, slots := 0, locals := 22 })
abbrev M_X10_lettersRead : Mt := (yX10_lettersRead, cX10_lettersRead, 5, (some .boolean), { frames := 1, cells := 0, slots := 0, locals := 22 })
abbrev M_X10_endingRead : Mt := (yX10_endingRead, cX10_endingRead, 3, (some .boolean), { frames := 1, cells := 0, slots := 0, locals := 22 })
abbrev M_X10_shape : Mt := (yX10_shape, cX10_shape, 4, (some .int), { frames := 2, cells := 0, slots := 0, locals := 46 })
abbrev M_X10_fault : Mt := (yX10_fault, cX10_fault, 2, (some .int), { frames := 0, cells := 0, slots := 0, locals := 0 })
abbrev M_X10_isLetter : Mt := (yX10_isLetter, cX10_isLetter, 1, (some .boolean), { frames := 0, cells := 0, slots := 0, locals := 0 })
abbrev M_X10_isWord : Mt := (yX10_isWord, cX10_isWord, 8, (some .boolean), { frames := 1, cells := 0, slots := 0, locals := 20 })
abbrev M_X10_entry : Mt := (yX10_entry, cX10_entry, 9, (some .int), { frames := 0, cells := 0, slots := 0, locals := 0 })
abbrev M_X10_isKept : Mt := (yX10_isKept, cX10_isKept, 1, (some .boolean), { frames := 0, cells := 0, slots := 0, locals := 0 })
abbrev M_X10_know : Mt := (yX10_know, cX10_know, 5, (some .int), { frames := 2, cells := 0, slots := 0, locals := 47 })
abbrev M_X10_forget : Mt := (yX10_forget, cX10_forget, 7, (some .boolean), { frames := 2, cells := 0, slots := 0, locals := 47 })
abbrev M_X10_name : Mt := (yX10_name, cX10_name, 8, (some .int), { frames := 2, cells := 0, slots := 0, locals := 47 })
abbrev M_X10_costOf : Mt := (yX10_costOf, cX10_costOf, 7, (some .int), { frames := 1, cells := 0, slots := 0, locals := 28 })
abbrev M_X10_slips : Mt := (yX10_slips, cX10_slips, 6, (some .int), { frames := 0, cells := 0, slots := 0, locals := 0 })
abbrev M_X10_goes : Mt := (yX10_goes, cX10_goes, 7, (some .int), { frames := 0, cells := 0, slots := 0, locals := 0 })
abbrev M_X10_fill : Mt := (yX10_fill, cX10_fill, 9, none, { frames := 2, cells := 0, slots := 0, locals := 54 })
abbrev M_X10_reading : Mt := (yX10_reading, cX10_reading, 7, (some .int), { frames := 3, cells := 0, slots := 0, locals := 82 })
abbrev M_X10_isName : Mt := (yX10_isName, cX10_isName, 2, (some .boolean), { frames := 0, cells := 0, slots := 0, locals := 0 })
abbrev M_X10_readings : Mt := (yX10_readings, cX10_readings, 5, (some .int), { frames := 3, cells := 0, slots := 0, locals := 82 })
abbrev M_X10_cost : Mt := (yX10_cost, cX10_cost, 4, (some .int), { frames := 4, cells := 0, slots := 0, locals := 108 })
abbrev M_X10_kindIn : Mt := (yX10_kindIn, cX10_kindIn, 4, (some .int), { frames := 0, cells := 0, slots := 0, locals := 0 })
abbrev M_X10_kind : Mt := (yX10_kind, cX10_kind, 5, (some .int), { frames := 4, cells := 0, slots := 0, locals := 108 })
abbrev M_X10_first : Mt := (yX10_first, cX10_first, 4, none, { frames := 4, cells := 0, slots := 0, locals := 108 })
abbrev M_X10_firstAll : Mt := (yX10_firstAll, cX10_firstAll, 2, none, { frames := 5, cells := 0, slots := 0, locals := 131 })
abbrev M_X10_pick : Mt := (yX10_pick, cX10_pick, 8, none, { frames := 0, cells := 0, slots := 0, locals := 0 })
abbrev M_X10_compare : Mt := (yX10_compare, cX10_compare, 4, (some .int), { frames := 0, cells := 0, slots := 0, locals := 0 })
abbrev M_X10_ahead : Mt := (yX10_ahead, cX10_ahead, 5, (some .boolean), { frames := 1, cells := 0, slots := 0, locals := 23 })
abbrev M_X10_orderAll : Mt := (yX10_orderAll, cX10_orderAll, 2, none, { frames := 6, cells := 0, slots := 0, locals := 152 })
abbrev M_X10_placeOf : Mt := (yX10_placeOf, cX10_placeOf, 4, (some .int), { frames := 2, cells := 0, slots := 0, locals := 47 })
abbrev M_X10_signs : Mt := (yX10_signs, cX10_signs, 6, (some .int), { frames := 5, cells := 0, slots := 0, locals := 131 })
abbrev M_X10_fails : Mt := (yX10_fails, cX10_fails, 2, (some .int), { frames := 0, cells := 0, slots := 0, locals := 0 })
abbrev M_X10_look : Mt := (yX10_look, cX10_look, 3, (some .int), { frames := 7, cells := 0, slots := 0, locals := 173 })
abbrev M_X10_order : Mt := (yX10_order, cX10_order, 3, (some .int), { frames := 7, cells := 0, slots := 0, locals := 173 })
abbrev M_X10_over : Mt := (yX10_over, cX10_over, 7, (some .int), { frames := 0, cells := 0, slots := 0, locals := 0 })
abbrev M_X10_sign : Mt := (yX10_sign, cX10_sign, 8, (some .int), { frames := 5, cells := 0, slots := 0, locals := 131 })
abbrev M_X10_wordOf : Mt := (yX10_wordOf, cX10_wordOf, 8, (some .int), { frames := 0, cells := 0, slots := 0, locals := 0 })
abbrev M_X10_agree : Mt := (yX10_agree, cX10_agree, 7, (some .int), { frames := 5, cells := 0, slots := 0, locals := 131 })
abbrev M_X10_father : Mt := (yX10_father, cX10_father, 8, (some .int), { frames := 5, cells := 0, slots := 0, locals := 131 })
abbrev M_X10_table : Mt := (yX10_table, cX10_table, 4, (some .boolean), { frames := 0, cells := 0, slots := 0, locals := 0 })
abbrev M_X10_alike : Mt := (yX10_alike, cX10_alike, 4, (some .boolean), { frames := 1, cells := 0, slots := 0, locals := 23 })
abbrev M_X10_overAlike : Mt := (yX10_overAlike, cX10_overAlike, 5, (some .boolean), { frames := 6, cells := 0, slots := 0, locals := 156 })
abbrev M_X10_fallen : Mt := (yX10_fallen, cX10_fallen, 4, (some .int), { frames := 7, cells := 0, slots := 0, locals := 180 })
abbrev M_X10_count : Mt := (yX10_count, cX10_count, 4, (some .int), { frames := 0, cells := 0, slots := 0, locals := 0 })
abbrev M_X0_init : Mt := (yX0_init, cX0_init, 2, none, { frames := 2, cells := 243, slots := 3840, locals := 40 })
abbrev M_X0_find : Mt := (yX0_find, cX0_find, 5, (some .int), { frames := 2, cells := 0, slots := 0, locals := 44 })
abbrev M_X0_add : Mt := (yX0_add, cX0_add, 4, none, { frames := 1, cells := 0, slots := 0, locals := 22 })
abbrev M_X0_remove : Mt := (yX0_remove, cX0_remove, 4, none, { frames := 0, cells := 0, slots := 0, locals := 0 })
abbrev M_X0_kindsOf : Mt := (yX0_kindsOf, cX0_kindsOf, 6, (some .int), { frames := 1, cells := 0, slots := 0, locals := 23 })
abbrev M_X1_init : Mt := (yX1_init, cX1_init, 1, none, { frames := 1, cells := 1, slots := 488, locals := 20 })
abbrev M_X1_add : Mt := (yX1_add, cX1_add, 2, none, { frames := 0, cells := 0, slots := 0, locals := 0 })
abbrev M_X1_addWord : Mt := (yX1_addWord, cX1_addWord, 5, none, { frames := 1, cells := 0, slots := 0, locals := 21 })
abbrev M_X1_signAt : Mt := (yX1_signAt, cX1_signAt, 2, (some .int), { frames := 0, cells := 0, slots := 0, locals := 0 })
abbrev M_X1_alike : Mt := (yX1_alike, cX1_alike, 3, (some .boolean), { frames := 0, cells := 0, slots := 0, locals := 0 })
abbrev M_X2_init : Mt := (yX2_init, cX2_init, 2, none, { frames := 2, cells := 29, slots := 874, locals := 40 })
abbrev M_X2_take : Mt := (yX2_take, cX2_take, 5, (some .boolean), { frames := 3, cells := 0, slots := 0, locals := 66 })
abbrev M_X2_nextOf : Mt := (yX2_nextOf, cX2_nextOf, 4, (some .int), { frames := 0, cells := 0, slots := 0, locals := 0 })
abbrev M_X2_choose : Mt := (yX2_choose, cX2_choose, 7, (some .int), { frames := 0, cells := 0, slots := 0, locals := 0 })
abbrev M_X2_isBefore : Mt := (yX2_isBefore, cX2_isBefore, 4, (some .boolean), { frames := 1, cells := 0, slots := 0, locals := 22 })
abbrev M_X2_alikeFolded : Mt := (yX2_alikeFolded, cX2_alikeFolded, 3, (some .boolean), { frames := 2, cells := 0, slots := 0, locals := 44 })
abbrev M_X3_init : Mt := (yX3_init, cX3_init, 1, none, { frames := 2, cells := 30, slots := 13119, locals := 40 })
abbrev M_X3_weigh : Mt := (yX3_weigh, cX3_weigh, 7, none, { frames := 3, cells := 0, slots := 0, locals := 75 })
abbrev M_X3_weighWord : Mt := (yX3_weighWord, cX3_weighWord, 8, none, { frames := 2, cells := 0, slots := 0, locals := 48 })
abbrev M_X3_leastFrom : Mt := (yX3_leastFrom, cX3_leastFrom, 5, (some .int), { frames := 1, cells := 0, slots := 0, locals := 21 })
abbrev M_X3_readFirst : Mt := (yX3_readFirst, cX3_readFirst, 7, (some .boolean), { frames := 2, cells := 0, slots := 0, locals := 45 })
abbrev M_X3_listRows : Mt := (yX3_listRows, cX3_listRows, 2, none, { frames := 3, cells := 0, slots := 0, locals := 77 })
abbrev M_X3_swapRows : Mt := (yX3_swapRows, cX3_swapRows, 2, none, { frames := 0, cells := 0, slots := 0, locals := 0 })
abbrev M_X3_lengthenRows : Mt := (yX3_lengthenRows, cX3_lengthenRows, 13, none, { frames := 2, cells := 0, slots := 0, locals := 45 })
abbrev M_X3_sortByCost : Mt := (yX3_sortByCost, cX3_sortByCost, 3, none, { frames := 2, cells := 0, slots := 0, locals := 42 })
abbrev M_X3_costIn : Mt := (yX3_costIn, cX3_costIn, 2, (some .int), { frames := 1, cells := 0, slots := 0, locals := 21 })
abbrev M_X3_rowsUpTo : Mt := (yX3_rowsUpTo, cX3_rowsUpTo, 2, (some .int), { frames := 1, cells := 0, slots := 0, locals := 21 })
abbrev M_X3_isRow : Mt := (yX3_isRow, cX3_isRow, 2, (some .boolean), { frames := 0, cells := 0, slots := 0, locals := 0 })
abbrev M_X3_costOfRow : Mt := (yX3_costOfRow, cX3_costOfRow, 2, (some .int), { frames := 2, cells := 0, slots := 0, locals := 42 })
abbrev M_X3_kindInRow : Mt := (yX3_kindInRow, cX3_kindInRow, 3, (some .int), { frames := 1, cells := 0, slots := 0, locals := 21 })
abbrev M_X4_init : Mt := (yX4_init, cX4_init, 1, none, { frames := 1, cells := 8, slots := 59, locals := 20 })
abbrev M_X4_link : Mt := (yX4_link, cX4_link, 2, none, { frames := 1, cells := 0, slots := 0, locals := 23 })
abbrev M_X4_openFrom : Mt := (yX4_openFrom, cX4_openFrom, 4, (some .int), { frames := 0, cells := 0, slots := 0, locals := 0 })
abbrev M_X4_openBehind : Mt := (yX4_openBehind, cX4_openBehind, 6, (some .int), { frames := 0, cells := 0, slots := 0, locals := 0 })
abbrev M_X4_isMade : Mt := (yX4_isMade, cX4_isMade, 2, (some .boolean), { frames := 1, cells := 0, slots := 0, locals := 23 })
abbrev M_X4_makes : Mt := (yX4_makes, cX4_makes, 3, (some .boolean), { frames := 2, cells := 0, slots := 0, locals := 44 })
abbrev M_X5_init : Mt := (yX5_init, cX5_init, 1, none, { frames := 1, cells := 1, slots := 0, locals := 20 })
abbrev M_X5_readInto : Mt := (yX5_readInto, cX5_readInto, 4, (some .boolean), { frames := 8, cells := 0, slots := 0, locals := 177 })
abbrev M_X5_here : Mt := (yX5_here, cX5_here, 1, (some .int), { frames := 0, cells := 0, slots := 0, locals := 0 })
abbrev M_X5_kindHere : Mt := (yX5_kindHere, cX5_kindHere, 2, (some .int), { frames := 6, cells := 0, slots := 0, locals := 131 })
abbrev M_X5_stopWith : Mt := (yX5_stopWith, cX5_stopWith, 2, (some .boolean), { frames := 0, cells := 0, slots := 0, locals := 0 })
abbrev M_X5_pass : Mt := (yX5_pass, cX5_pass, 2, (some .boolean), { frames := 1, cells := 0, slots := 0, locals := 21 })
abbrev M_X5_readSlots : Mt := (yX5_readSlots, cX5_readSlots, 5, (some .boolean), { frames := 7, cells := 0, slots := 0, locals := 152 })
abbrev M_X5_readLetters : Mt := (yX5_readLetters, cX5_readLetters, 6, (some .int), { frames := 7, cells := 0, slots := 0, locals := 152 })
abbrev M_X5_readEnding : Mt := (yX5_readEnding, cX5_readEnding, 3, (some .boolean), { frames := 1, cells := 0, slots := 0, locals := 21 })
abbrev M_X6_init : Mt := (yX6_init, cX6_init, 2, none, { frames := 1, cells := 2, slots := 104, locals := 20 })
abbrev M_X6_change : Mt := (yX6_change, cX6_change, 5, (some .boolean), { frames := 1, cells := 0, slots := 0, locals := 20 })
abbrev M_X6_putOver : Mt := (yX6_putOver, cX6_putOver, 7, none, { frames := 1, cells := 0, slots := 0, locals := 21 })
abbrev M_X7_init : Mt := (yX7_init, cX7_init, 1, none, { frames := 1, cells := 1, slots := 400, locals := 20 })
abbrev M_X7_holds : Mt := (yX7_holds, cX7_holds, 2, (some .boolean), { frames := 0, cells := 0, slots := 0, locals := 0 })
abbrev M_X7_add : Mt := (yX7_add, cX7_add, 3, none, { frames := 0, cells := 0, slots := 0, locals := 0 })
abbrev M_X8_init : Mt := (yX8_init, cX8_init, 1, none, { frames := 1, cells := 2, slots := 41, locals := 20 })
abbrev M_X8_take : Mt := (yX8_take, cX8_take, 6, (some .boolean), { frames := 2, cells := 0, slots := 0, locals := 41 })
abbrev M_X8_takeSign : Mt := (yX8_takeSign, cX8_takeSign, 2, (some .boolean), { frames := 1, cells := 0, slots := 0, locals := 20 })
abbrev M_X8_copyLetters : Mt := (yX8_copyLetters, cX8_copyLetters, 3, none, { frames := 0, cells := 0, slots := 0, locals := 0 })
abbrev M_X8_isBeginning : Mt := (yX8_isBeginning, cX8_isBeginning, 4, (some .boolean), { frames := 0, cells := 0, slots := 0, locals := 0 })
abbrev M_X8_alike : Mt := (yX8_alike, cX8_alike, 2, (some .boolean), { frames := 1, cells := 0, slots := 0, locals := 23 })
abbrev M_X8_fits : Mt := (yX8_fits, cX8_fits, 2, (some .boolean), { frames := 2, cells := 0, slots := 0, locals := 44 })
abbrev M_X8_endsWith : Mt := (yX8_endsWith, cX8_endsWith, 4, (some .boolean), { frames := 0, cells := 0, slots := 0, locals := 0 })
abbrev M_X8_compareLetters : Mt := (yX8_compareLetters, cX8_compareLetters, 3, (some .int), { frames := 0, cells := 0, slots := 0, locals := 0 })
theorem f_X0_11 : GF RX0 11 0 0 (.array (.object "NameDesk$Word")) true true := ⟨_, _, _, _, ci_0, by decide, (wt 227 (by decide +kernel) rfl), by decide, rfl, rfl, rfl⟩
theorem f_X0_17 : GF RX0 17 0 1 (.array .int) true true := ⟨_, _, _, _, ci_0, by decide, (wt 228 (by decide +kernel) rfl), by decide, rfl, rfl, rfl⟩
theorem f_X0_21 : GF RX0 21 0 2 (.array .int) true true := ⟨_, _, _, _, ci_0, by decide, (wt 229 (by decide +kernel) rfl), by decide, rfl, rfl, rfl⟩
theorem f_X0_24 : GF RX0 24 0 3 .int false false := ⟨_, _, _, _, ci_0, by decide, (wt 230 (by decide +kernel) rfl), by decide, rfl, rfl, rfl⟩
theorem f_X1_9 : GF RX1 9 1 0 (.array .byte) true true := ⟨_, _, _, _, ci_1, by decide, (wt 300 (by decide +kernel) rfl), by decide, rfl, rfl, rfl⟩
theorem f_X1_15 : GF RX1 15 1 1 .int false false := ⟨_, _, _, _, ci_1, by decide, (wt 301 (by decide +kernel) rfl), by decide, rfl, rfl, rfl⟩
theorem f_X10_7 : GF RX10 7 10 0 (.array .int) true true := ⟨_, _, _, _, ci_10, by decide, (wt 927 (by decide +kernel) rfl), by decide, rfl, rfl, rfl⟩
theorem f_X10_13 : GF RX10 13 10 4 (.array .int) true true := ⟨_, _, _, _, ci_10, by decide, (wt 931 (by decide +kernel) rfl), by decide, rfl, rfl, rfl⟩
theorem f_X10_16 : GF RX10 16 10 5 (.array .int) true true := ⟨_, _, _, _, ci_10, by decide, (wt 932 (by decide +kernel) rfl), by decide, rfl, rfl, rfl⟩
theorem f_X10_19 : GF RX10 19 10 6 (.array .int) true true := ⟨_, _, _, _, ci_10, by decide, (wt 933 (by decide +kernel) rfl), by decide, rfl, rfl, rfl⟩
theorem f_X10_22 : GF RX10 22 10 7 (.array .int) true true := ⟨_, _, _, _, ci_10, by decide, (wt 934 (by decide +kernel) rfl), by decide, rfl, rfl, rfl⟩
theorem f_X10_25 : GF RX10 25 10 8 (.array .boolean) true true := ⟨_, _, _, _, ci_10, by decide, (wt 935 (by decide +kernel) rfl), by decide, rfl, rfl, rfl⟩
theorem f_X10_29 : GF RX10 29 10 9 (.array .int) true true := ⟨_, _, _, _, ci_10, by decide, (wt 936 (by decide +kernel) rfl), by decide, rfl, rfl, rfl⟩
theorem f_X10_32 : GF RX10 32 10 10 (.array .int) true true := ⟨_, _, _, _, ci_10, by decide, (wt 937 (by decide +kernel) rfl), by decide, rfl, rfl, rfl⟩
theorem f_X10_35 : GF RX10 35 10 11 (.array .int) true true := ⟨_, _, _, _, ci_10, by decide, (wt 938 (by decide +kernel) rfl), by decide, rfl, rfl, rfl⟩
theorem f_X10_38 : GF RX10 38 10 12 (.array .int) true true := ⟨_, _, _, _, ci_10, by decide, (wt 939 (by decide +kernel) rfl), by decide, rfl, rfl, rfl⟩
theorem f_X10_41 : GF RX10 41 10 13 (.array .int) true true := ⟨_, _, _, _, ci_10, by decide, (wt 940 (by decide +kernel) rfl), by decide, rfl, rfl, rfl⟩
theorem f_X10_44 : GF RX10 44 10 14 (.array .int) true true := ⟨_, _, _, _, ci_10, by decide, (wt 941 (by decide +kernel) rfl), by decide, rfl, rfl, rfl⟩
theorem f_X10_47 : GF RX10 47 10 15 (.array .int) true true := ⟨_, _, _, _, ci_10, by decide, (wt 942 (by decide +kernel) rfl), by decide, rfl, rfl, rfl⟩
theorem f_X10_50 : GF RX10 50 10 16 (.array .int) true true := ⟨_, _, _, _, ci_10, by decide, (wt 943 (by decide +kernel) rfl), by decide, rfl, rfl, rfl⟩
theorem f_X10_53 : GF RX10 53 10 17 (.array .int) true true := ⟨_, _, _, _, ci_10, by decide, (wt 944 (by decide +kernel) rfl), by decide, rfl, rfl, rfl⟩
theorem f_X10_56 : GF RX10 56 10 19 .int false false := ⟨_, _, _, _, ci_10, by decide, (wt 946 (by decide +kernel) rfl), by decide, rfl, rfl, rfl⟩
theorem f_X10_60 : GF RX10 60 10 21 (.array .int) true true := ⟨_, _, _, _, ci_10, by decide, (wt 948 (by decide +kernel) rfl), by decide, rfl, rfl, rfl⟩
theorem f_X10_63 : GF RX10 63 10 22 (.array .int) true true := ⟨_, _, _, _, ci_10, by decide, (wt 949 (by decide +kernel) rfl), by decide, rfl, rfl, rfl⟩
theorem f_X10_66 : GF RX10 66 10 23 (.array .int) true true := ⟨_, _, _, _, ci_10, by decide, (wt 950 (by decide +kernel) rfl), by decide, rfl, rfl, rfl⟩
theorem f_X10_69 : GF RX10 69 10 24 (.array .int) true true := ⟨_, _, _, _, ci_10, by decide, (wt 951 (by decide +kernel) rfl), by decide, rfl, rfl, rfl⟩
theorem f_X10_72 : GF RX10 72 10 25 (.array .int) true true := ⟨_, _, _, _, ci_10, by decide, (wt 952 (by decide +kernel) rfl), by decide, rfl, rfl, rfl⟩
theorem f_X10_75 : GF RX10 75 10 26 (.array .int) true true := ⟨_, _, _, _, ci_10, by decide, (wt 953 (by decide +kernel) rfl), by decide, rfl, rfl, rfl⟩
theorem f_X10_78 : GF RX10 78 10 27 (.array .int) true true := ⟨_, _, _, _, ci_10, by decide, (wt 954 (by decide +kernel) rfl), by decide, rfl, rfl, rfl⟩
theorem f_X10_81 : GF RX10 81 10 28 (.array .int) true true := ⟨_, _, _, _, ci_10, by decide, (wt 955 (by decide +kernel) rfl), by decide, rfl, rfl, rfl⟩
theorem f_X10_84 : GF RX10 84 10 32 (.array .int) true true := ⟨_, _, _, _, ci_10, by decide, (wt 959 (by decide +kernel) rfl), by decide, rfl, rfl, rfl⟩
theorem f_X10_87 : GF RX10 87 10 33 (.array .int) true true := ⟨_, _, _, _, ci_10, by decide, (wt 960 (by decide +kernel) rfl), by decide, rfl, rfl, rfl⟩
theorem f_X10_90 : GF RX10 90 10 34 (.array .int) true true := ⟨_, _, _, _, ci_10, by decide, (wt 961 (by decide +kernel) rfl), by decide, rfl, rfl, rfl⟩
theorem f_X10_93 : GF RX10 93 10 35 (.array .int) true true := ⟨_, _, _, _, ci_10, by decide, (wt 962 (by decide +kernel) rfl), by decide, rfl, rfl, rfl⟩
theorem f_X10_96 : GF RX10 96 10 37 (.array .int) true true := ⟨_, _, _, _, ci_10, by decide, (wt 964 (by decide +kernel) rfl), by decide, rfl, rfl, rfl⟩
theorem f_X10_99 : GF RX10 99 10 38 (.array .int) true true := ⟨_, _, _, _, ci_10, by decide, (wt 965 (by decide +kernel) rfl), by decide, rfl, rfl, rfl⟩
theorem f_X10_102 : GF RX10 102 10 40 (.array .int) true true := ⟨_, _, _, _, ci_10, by decide, (wt 967 (by decide +kernel) rfl), by decide, rfl, rfl, rfl⟩
theorem f_X10_105 : GF RX10 105 10 41 (.array .int) true true := ⟨_, _, _, _, ci_10, by decide, (wt 968 (by decide +kernel) rfl), by decide, rfl, rfl, rfl⟩
theorem f_X10_108 : GF RX10 108 10 42 (.array .int) true true := ⟨_, _, _, _, ci_10, by decide, (wt 969 (by decide +kernel) rfl), by decide, rfl, rfl, rfl⟩
theorem f_X10_111 : GF RX10 111 10 43 (.array .int) true true := ⟨_, _, _, _, ci_10, by decide, (wt 970 (by decide +kernel) rfl), by decide, rfl, rfl, rfl⟩
theorem f_X10_114 : GF RX10 114 10 45 (.array .int) true true := ⟨_, _, _, _, ci_10, by decide, (wt 972 (by decide +kernel) rfl), by decide, rfl, rfl, rfl⟩
theorem f_X10_117 : GF RX10 117 10 46 (.array .boolean) true true := ⟨_, _, _, _, ci_10, by decide, (wt 973 (by decide +kernel) rfl), by decide, rfl, rfl, rfl⟩
theorem f_X10_120 : GF RX10 120 10 47 (.array .int) true true := ⟨_, _, _, _, ci_10, by decide, (wt 974 (by decide +kernel) rfl), by decide, rfl, rfl, rfl⟩
theorem f_X10_123 : GF RX10 123 10 48 (.array .int) true true := ⟨_, _, _, _, ci_10, by decide, (wt 975 (by decide +kernel) rfl), by decide, rfl, rfl, rfl⟩
theorem f_X10_126 : GF RX10 126 10 2 .int false false := ⟨_, _, _, _, ci_10, by decide, (wt 929 (by decide +kernel) rfl), by decide, rfl, rfl, rfl⟩
theorem f_X10_129 : GF RX10 129 10 1 .int false false := ⟨_, _, _, _, ci_10, by decide, (wt 928 (by decide +kernel) rfl), by decide, rfl, rfl, rfl⟩
theorem f_X10_132 : GF RX10 132 10 18 .int false false := ⟨_, _, _, _, ci_10, by decide, (wt 945 (by decide +kernel) rfl), by decide, rfl, rfl, rfl⟩
theorem f_X10_135 : GF RX10 135 10 29 .int false false := ⟨_, _, _, _, ci_10, by decide, (wt 956 (by decide +kernel) rfl), by decide, rfl, rfl, rfl⟩
theorem f_X10_138 : GF RX10 138 10 30 .int false false := ⟨_, _, _, _, ci_10, by decide, (wt 957 (by decide +kernel) rfl), by decide, rfl, rfl, rfl⟩
theorem f_X10_141 : GF RX10 141 10 31 .int false false := ⟨_, _, _, _, ci_10, by decide, (wt 958 (by decide +kernel) rfl), by decide, rfl, rfl, rfl⟩
theorem f_X10_156 : GF RX10 156 10 36 .int false false := ⟨_, _, _, _, ci_10, by decide, (wt 963 (by decide +kernel) rfl), by decide, rfl, rfl, rfl⟩
theorem f_X10_173 : GF RX10 173 10 39 .int false false := ⟨_, _, _, _, ci_10, by decide, (wt 966 (by decide +kernel) rfl), by decide, rfl, rfl, rfl⟩
theorem f_X10_176 : GF RX10 176 10 3 .int false false := ⟨_, _, _, _, ci_10, by decide, (wt 930 (by decide +kernel) rfl), by decide, rfl, rfl, rfl⟩
theorem f_X10_189 : GF RX10 189 10 20 .int false false := ⟨_, _, _, _, ci_10, by decide, (wt 947 (by decide +kernel) rfl), by decide, rfl, rfl, rfl⟩
theorem f_X10_192 : GF RX10 192 10 44 .int false false := ⟨_, _, _, _, ci_10, by decide, (wt 971 (by decide +kernel) rfl), by decide, rfl, rfl, rfl⟩
theorem f_X2_9 : GF RX2 9 2 0 .int false false := ⟨_, _, _, _, ci_2, by decide, (wt 317 (by decide +kernel) rfl), by decide, rfl, rfl, rfl⟩
theorem f_X2_15 : GF RX2 15 2 1 .int false false := ⟨_, _, _, _, ci_2, by decide, (wt 320 (by decide +kernel) rfl), by decide, rfl, rfl, rfl⟩
theorem f_X2_20 : GF RX2 20 2 2 (.array (.object "NameDesk$Word")) true true := ⟨_, _, _, _, ci_2, by decide, (wt 323 (by decide +kernel) rfl), by decide, rfl, rfl, rfl⟩
theorem f_X2_24 : GF RX2 24 2 3 .boolean false false := ⟨_, _, _, _, ci_2, by decide, (wt 326 (by decide +kernel) rfl), by decide, rfl, rfl, rfl⟩
theorem f_X2_28 : GF RX2 28 2 4 .boolean false false := ⟨_, _, _, _, ci_2, by decide, (wt 328 (by decide +kernel) rfl), by decide, rfl, rfl, rfl⟩
theorem f_X2_31 : GF RX2 31 2 5 (.array .int) true true := ⟨_, _, _, _, ci_2, by decide, (wt 330 (by decide +kernel) rfl), by decide, rfl, rfl, rfl⟩
theorem f_X2_35 : GF RX2 35 2 6 (.array .int) true true := ⟨_, _, _, _, ci_2, by decide, (wt 332 (by decide +kernel) rfl), by decide, rfl, rfl, rfl⟩
theorem f_X2_38 : GF RX2 38 2 7 .int false false := ⟨_, _, _, _, ci_2, by decide, (wt 334 (by decide +kernel) rfl), by decide, rfl, rfl, rfl⟩
theorem f_X2_41 : GF RX2 41 2 8 .boolean false false := ⟨_, _, _, _, ci_2, by decide, (wt 336 (by decide +kernel) rfl), by decide, rfl, rfl, rfl⟩
theorem f_X2_47 : GF RX2 47 2 9 (.object "NameDesk$Line") true true := ⟨_, _, _, _, ci_2, by decide, (wt 338 (by decide +kernel) rfl), by decide, rfl, rfl, rfl⟩
theorem f_X3_12 : GF RX3 12 3 0 (.object "NameDesk$Shape") true false := ⟨_, _, _, _, ci_3, by decide, (wt 255 (by decide +kernel) rfl), by decide, rfl, rfl, rfl⟩
theorem f_X3_18 : GF RX3 18 3 1 .int false false := ⟨_, _, _, _, ci_3, by decide, (wt 256 (by decide +kernel) rfl), by decide, rfl, rfl, rfl⟩
theorem f_X3_24 : GF RX3 24 3 2 (.array (.array .int)) true true := ⟨_, _, _, _, ci_3, by decide, (wt 257 (by decide +kernel) rfl), by decide, rfl, rfl, rfl⟩
theorem f_X3_27 : GF RX3 27 3 3 (.array (.array .int)) true true := ⟨_, _, _, _, ci_3, by decide, (wt 258 (by decide +kernel) rfl), by decide, rfl, rfl, rfl⟩
theorem f_X3_30 : GF RX3 30 3 4 (.array .long) true false := ⟨_, _, _, _, ci_3, by decide, (wt 259 (by decide +kernel) rfl), by decide, rfl, rfl, rfl⟩
theorem f_X3_34 : GF RX3 34 3 5 (.array .long) true false := ⟨_, _, _, _, ci_3, by decide, (wt 260 (by decide +kernel) rfl), by decide, rfl, rfl, rfl⟩
theorem f_X3_37 : GF RX3 37 3 6 .int false false := ⟨_, _, _, _, ci_3, by decide, (wt 261 (by decide +kernel) rfl), by decide, rfl, rfl, rfl⟩
theorem f_X3_40 : GF RX3 40 3 7 (.array .int) true true := ⟨_, _, _, _, ci_3, by decide, (wt 262 (by decide +kernel) rfl), by decide, rfl, rfl, rfl⟩
theorem f_X3_44 : GF RX3 44 2 1 .int false false := ⟨_, _, _, _, ci_2, by decide, (wt 321 (by decide +kernel) rfl), by decide, rfl, rfl, rfl⟩
theorem f_X3_53 : GF RX3 53 2 2 (.array (.object "NameDesk$Word")) true true := ⟨_, _, _, _, ci_2, by decide, (wt 324 (by decide +kernel) rfl), by decide, rfl, rfl, rfl⟩
theorem f_X3_57 : GF RX3 57 2 0 .int false false := ⟨_, _, _, _, ci_2, by decide, (wt 318 (by decide +kernel) rfl), by decide, rfl, rfl, rfl⟩
theorem f_X3_64 : GF RX3 64 4 0 .int false false := ⟨_, _, _, _, ci_4, by decide, (wt 132 (by decide +kernel) rfl), by decide, rfl, rfl, rfl⟩
theorem f_X3_67 : GF RX3 67 4 1 (.array .int) true true := ⟨_, _, _, _, ci_4, by decide, (wt 136 (by decide +kernel) rfl), by decide, rfl, rfl, rfl⟩
theorem f_X3_70 : GF RX3 70 4 5 (.array .int) true true := ⟨_, _, _, _, ci_4, by decide, (wt 145 (by decide +kernel) rfl), by decide, rfl, rfl, rfl⟩
theorem f_X3_76 : GF RX3 76 8 3 .int false false := ⟨_, _, _, _, ci_8, by decide, (wt 214 (by decide +kernel) rfl), by decide, rfl, rfl, rfl⟩
theorem f_X3_91 : GF RX3 91 4 12 .int false false := ⟨_, _, _, _, ci_4, by decide, (wt 162 (by decide +kernel) rfl), by decide, rfl, rfl, rfl⟩
theorem f_X3_94 : GF RX3 94 4 4 .int false false := ⟨_, _, _, _, ci_4, by decide, (wt 143 (by decide +kernel) rfl), by decide, rfl, rfl, rfl⟩
theorem f_X4_9 : GF RX4 9 4 0 .int false false := ⟨_, _, _, _, ci_4, by decide, (wt 131 (by decide +kernel) rfl), by decide, rfl, rfl, rfl⟩
theorem f_X4_15 : GF RX4 15 4 1 (.array .int) true true := ⟨_, _, _, _, ci_4, by decide, (wt 135 (by decide +kernel) rfl), by decide, rfl, rfl, rfl⟩
theorem f_X4_19 : GF RX4 19 4 2 (.array .boolean) true true := ⟨_, _, _, _, ci_4, by decide, (wt 138 (by decide +kernel) rfl), by decide, rfl, rfl, rfl⟩
theorem f_X4_23 : GF RX4 23 4 3 (.array .boolean) true true := ⟨_, _, _, _, ci_4, by decide, (wt 140 (by decide +kernel) rfl), by decide, rfl, rfl, rfl⟩
theorem f_X4_26 : GF RX4 26 4 4 .int false false := ⟨_, _, _, _, ci_4, by decide, (wt 142 (by decide +kernel) rfl), by decide, rfl, rfl, rfl⟩
theorem f_X4_29 : GF RX4 29 4 5 (.array .int) true true := ⟨_, _, _, _, ci_4, by decide, (wt 144 (by decide +kernel) rfl), by decide, rfl, rfl, rfl⟩
theorem f_X4_32 : GF RX4 32 4 6 (.array .int) true true := ⟨_, _, _, _, ci_4, by decide, (wt 146 (by decide +kernel) rfl), by decide, rfl, rfl, rfl⟩
theorem f_X4_35 : GF RX4 35 4 7 (.array .int) true true := ⟨_, _, _, _, ci_4, by decide, (wt 147 (by decide +kernel) rfl), by decide, rfl, rfl, rfl⟩
theorem f_X4_38 : GF RX4 38 4 8 .int false false := ⟨_, _, _, _, ci_4, by decide, (wt 150 (by decide +kernel) rfl), by decide, rfl, rfl, rfl⟩
theorem f_X4_41 : GF RX4 41 4 9 (.array .int) true true := ⟨_, _, _, _, ci_4, by decide, (wt 153 (by decide +kernel) rfl), by decide, rfl, rfl, rfl⟩
theorem f_X4_44 : GF RX4 44 4 10 .int false false := ⟨_, _, _, _, ci_4, by decide, (wt 156 (by decide +kernel) rfl), by decide, rfl, rfl, rfl⟩
theorem f_X4_47 : GF RX4 47 4 11 (.array .byte) true true := ⟨_, _, _, _, ci_4, by decide, (wt 159 (by decide +kernel) rfl), by decide, rfl, rfl, rfl⟩
theorem f_X4_51 : GF RX4 51 4 12 .int false false := ⟨_, _, _, _, ci_4, by decide, (wt 161 (by decide +kernel) rfl), by decide, rfl, rfl, rfl⟩
theorem f_X4_58 : GF RX4 58 8 3 .int false false := ⟨_, _, _, _, ci_8, by decide, (wt 216 (by decide +kernel) rfl), by decide, rfl, rfl, rfl⟩
theorem f_X5_9 : GF RX5 9 5 0 (.array .byte) true false := ⟨_, _, _, _, ci_5, by decide, (wt 108 (by decide +kernel) rfl), by decide, rfl, rfl, rfl⟩
theorem f_X5_15 : GF RX5 15 5 1 .int false false := ⟨_, _, _, _, ci_5, by decide, (wt 109 (by decide +kernel) rfl), by decide, rfl, rfl, rfl⟩
theorem f_X5_19 : GF RX5 19 5 2 .int false false := ⟨_, _, _, _, ci_5, by decide, (wt 110 (by decide +kernel) rfl), by decide, rfl, rfl, rfl⟩
theorem f_X5_22 : GF RX5 22 5 3 .int false false := ⟨_, _, _, _, ci_5, by decide, (wt 111 (by decide +kernel) rfl), by decide, rfl, rfl, rfl⟩
theorem f_X5_25 : GF RX5 25 5 4 .int false false := ⟨_, _, _, _, ci_5, by decide, (wt 113 (by decide +kernel) rfl), by decide, rfl, rfl, rfl⟩
theorem f_X5_38 : GF RX5 38 4 7 (.array .int) true true := ⟨_, _, _, _, ci_4, by decide, (wt 148 (by decide +kernel) rfl), by decide, rfl, rfl, rfl⟩
theorem f_X5_48 : GF RX5 48 4 8 .int false false := ⟨_, _, _, _, ci_4, by decide, (wt 151 (by decide +kernel) rfl), by decide, rfl, rfl, rfl⟩
theorem f_X5_51 : GF RX5 51 4 9 (.array .int) true true := ⟨_, _, _, _, ci_4, by decide, (wt 154 (by decide +kernel) rfl), by decide, rfl, rfl, rfl⟩
theorem f_X5_54 : GF RX5 54 4 10 .int false false := ⟨_, _, _, _, ci_4, by decide, (wt 157 (by decide +kernel) rfl), by decide, rfl, rfl, rfl⟩
theorem f_X5_83 : GF RX5 83 4 0 .int false false := ⟨_, _, _, _, ci_4, by decide, (wt 134 (by decide +kernel) rfl), by decide, rfl, rfl, rfl⟩
theorem f_X5_89 : GF RX5 89 4 1 (.array .int) true true := ⟨_, _, _, _, ci_4, by decide, (wt 137 (by decide +kernel) rfl), by decide, rfl, rfl, rfl⟩
theorem f_X5_92 : GF RX5 92 4 2 (.array .boolean) true true := ⟨_, _, _, _, ci_4, by decide, (wt 139 (by decide +kernel) rfl), by decide, rfl, rfl, rfl⟩
theorem f_X5_96 : GF RX5 96 4 3 (.array .boolean) true true := ⟨_, _, _, _, ci_4, by decide, (wt 141 (by decide +kernel) rfl), by decide, rfl, rfl, rfl⟩
theorem f_X5_99 : GF RX5 99 4 12 .int false false := ⟨_, _, _, _, ci_4, by decide, (wt 163 (by decide +kernel) rfl), by decide, rfl, rfl, rfl⟩
theorem f_X5_105 : GF RX5 105 4 11 (.array .byte) true true := ⟨_, _, _, _, ci_4, by decide, (wt 160 (by decide +kernel) rfl), by decide, rfl, rfl, rfl⟩
theorem f_X6_9 : GF RX6 9 6 0 (.array .byte) true true := ⟨_, _, _, _, ci_6, by decide, (wt 287 (by decide +kernel) rfl), by decide, rfl, rfl, rfl⟩
theorem f_X6_15 : GF RX6 15 6 1 (.array .int) true true := ⟨_, _, _, _, ci_6, by decide, (wt 288 (by decide +kernel) rfl), by decide, rfl, rfl, rfl⟩
theorem f_X6_29 : GF RX6 29 8 3 .int false false := ⟨_, _, _, _, ci_8, by decide, (wt 215 (by decide +kernel) rfl), by decide, rfl, rfl, rfl⟩
theorem f_X6_35 : GF RX6 35 8 2 (.array .byte) true true := ⟨_, _, _, _, ci_8, by decide, (wt 211 (by decide +kernel) rfl), by decide, rfl, rfl, rfl⟩
theorem f_X7_9 : GF RX7 9 7 0 (.array .byte) true true := ⟨_, _, _, _, ci_7, by decide, (wt 90 (by decide +kernel) rfl), by decide, rfl, rfl, rfl⟩
theorem f_X7_15 : GF RX7 15 7 1 .int false false := ⟨_, _, _, _, ci_7, by decide, (wt 92 (by decide +kernel) rfl), by decide, rfl, rfl, rfl⟩
theorem f_X8_9 : GF RX8 9 8 0 (.array .byte) true true := ⟨_, _, _, _, ci_8, by decide, (wt 206 (by decide +kernel) rfl), by decide, rfl, rfl, rfl⟩
theorem f_X8_15 : GF RX8 15 8 1 .int false false := ⟨_, _, _, _, ci_8, by decide, (wt 208 (by decide +kernel) rfl), by decide, rfl, rfl, rfl⟩
theorem f_X8_19 : GF RX8 19 8 2 (.array .byte) true true := ⟨_, _, _, _, ci_8, by decide, (wt 210 (by decide +kernel) rfl), by decide, rfl, rfl, rfl⟩
theorem f_X8_22 : GF RX8 22 8 3 .int false false := ⟨_, _, _, _, ci_8, by decide, (wt 213 (by decide +kernel) rfl), by decide, rfl, rfl, rfl⟩
theorem f_X9_12 : GF RX9 12 9 0 (.object "NameDesk$Tape") true true := ⟨_, _, _, _, ci_9, by decide, (wt 361 (by decide +kernel) rfl), by decide, rfl, rfl, rfl⟩
theorem f_X9_18 : GF RX9 18 9 1 (.array (.object "NameDesk$Shape")) true true := ⟨_, _, _, _, ci_9, by decide, (wt 362 (by decide +kernel) rfl), by decide, rfl, rfl, rfl⟩
theorem f_X9_25 : GF RX9 25 9 2 (.object "NameDesk$ShapeText") true true := ⟨_, _, _, _, ci_9, by decide, (wt 363 (by decide +kernel) rfl), by decide, rfl, rfl, rfl⟩
theorem f_X9_30 : GF RX9 30 9 3 (.object "NameDesk$Shape") true false := ⟨_, _, _, _, ci_9, by decide, (wt 364 (by decide +kernel) rfl), by decide, rfl, rfl, rfl⟩
theorem f_X9_37 : GF RX9 37 9 4 (.object "NameDesk$Book") true true := ⟨_, _, _, _, ci_9, by decide, (wt 365 (by decide +kernel) rfl), by decide, rfl, rfl, rfl⟩
theorem f_X9_44 : GF RX9 44 9 5 (.object "NameDesk$Word") true true := ⟨_, _, _, _, ci_9, by decide, (wt 366 (by decide +kernel) rfl), by decide, rfl, rfl, rfl⟩
theorem f_X9_50 : GF RX9 50 9 6 (.array (.object "NameDesk$Name")) true true := ⟨_, _, _, _, ci_9, by decide, (wt 367 (by decide +kernel) rfl), by decide, rfl, rfl, rfl⟩
theorem f_X9_54 : GF RX9 54 9 7 .int false false := ⟨_, _, _, _, ci_9, by decide, (wt 368 (by decide +kernel) rfl), by decide, rfl, rfl, rfl⟩
theorem f_X9_61 : GF RX9 61 9 8 (.object "NameDesk$Reader") true true := ⟨_, _, _, _, ci_9, by decide, (wt 369 (by decide +kernel) rfl), by decide, rfl, rfl, rfl⟩
theorem f_X9_65 : GF RX9 65 9 9 .int false false := ⟨_, _, _, _, ci_9, by decide, (wt 370 (by decide +kernel) rfl), by decide, rfl, rfl, rfl⟩
theorem f_X9_68 : GF RX9 68 9 10 (.array .int) true true := ⟨_, _, _, _, ci_9, by decide, (wt 371 (by decide +kernel) rfl), by decide, rfl, rfl, rfl⟩
theorem f_X9_72 : GF RX9 72 9 11 .boolean false false := ⟨_, _, _, _, ci_9, by decide, (wt 372 (by decide +kernel) rfl), by decide, rfl, rfl, rfl⟩
theorem f_X9_79 : GF RX9 79 9 12 (.object "NameDesk$Table") true true := ⟨_, _, _, _, ci_9, by decide, (wt 373 (by decide +kernel) rfl), by decide, rfl, rfl, rfl⟩
theorem f_X9_86 : GF RX9 86 9 13 (.object "NameDesk$Line") true true := ⟨_, _, _, _, ci_9, by decide, (wt 374 (by decide +kernel) rfl), by decide, rfl, rfl, rfl⟩
theorem f_X9_90 : GF RX9 90 9 14 (.array .int) true true := ⟨_, _, _, _, ci_9, by decide, (wt 375 (by decide +kernel) rfl), by decide, rfl, rfl, rfl⟩
theorem f_X9_94 : GF RX9 94 7 1 .int false false := ⟨_, _, _, _, ci_7, by decide, (wt 93 (by decide +kernel) rfl), by decide, rfl, rfl, rfl⟩
theorem f_X9_108 : GF RX9 108 7 0 (.array .byte) true true := ⟨_, _, _, _, ci_7, by decide, (wt 91 (by decide +kernel) rfl), by decide, rfl, rfl, rfl⟩
theorem f_X9_119 : GF RX9 119 4 0 .int false false := ⟨_, _, _, _, ci_4, by decide, (wt 133 (by decide +kernel) rfl), by decide, rfl, rfl, rfl⟩
theorem f_X9_122 : GF RX9 122 5 3 .int false false := ⟨_, _, _, _, ci_5, by decide, (wt 112 (by decide +kernel) rfl), by decide, rfl, rfl, rfl⟩
theorem f_X9_125 : GF RX9 125 5 4 .int false false := ⟨_, _, _, _, ci_5, by decide, (wt 114 (by decide +kernel) rfl), by decide, rfl, rfl, rfl⟩
theorem f_X9_132 : GF RX9 132 0 3 .int false false := ⟨_, _, _, _, ci_0, by decide, (wt 231 (by decide +kernel) rfl), by decide, rfl, rfl, rfl⟩
theorem f_X9_147 : GF RX9 147 2 0 .int false false := ⟨_, _, _, _, ci_2, by decide, (wt 319 (by decide +kernel) rfl), by decide, rfl, rfl, rfl⟩
theorem f_X9_150 : GF RX9 150 2 3 .boolean false false := ⟨_, _, _, _, ci_2, by decide, (wt 327 (by decide +kernel) rfl), by decide, rfl, rfl, rfl⟩
theorem f_X9_153 : GF RX9 153 2 8 .boolean false false := ⟨_, _, _, _, ci_2, by decide, (wt 337 (by decide +kernel) rfl), by decide, rfl, rfl, rfl⟩
theorem f_X9_180 : GF RX9 180 2 1 .int false false := ⟨_, _, _, _, ci_2, by decide, (wt 322 (by decide +kernel) rfl), by decide, rfl, rfl, rfl⟩
theorem f_X9_191 : GF RX9 191 2 7 .int false false := ⟨_, _, _, _, ci_2, by decide, (wt 335 (by decide +kernel) rfl), by decide, rfl, rfl, rfl⟩
theorem f_X9_198 : GF RX9 198 1 1 .int false false := ⟨_, _, _, _, ci_1, by decide, (wt 302 (by decide +kernel) rfl), by decide, rfl, rfl, rfl⟩
theorem f_X9_207 : GF RX9 207 2 4 .boolean false false := ⟨_, _, _, _, ci_2, by decide, (wt 329 (by decide +kernel) rfl), by decide, rfl, rfl, rfl⟩
theorem f_X9_220 : GF RX9 220 2 2 (.array (.object "NameDesk$Word")) true true := ⟨_, _, _, _, ci_2, by decide, (wt 325 (by decide +kernel) rfl), by decide, rfl, rfl, rfl⟩
theorem f_X9_258 : GF RX9 258 2 5 (.array .int) true true := ⟨_, _, _, _, ci_2, by decide, (wt 331 (by decide +kernel) rfl), by decide, rfl, rfl, rfl⟩
theorem f_X9_265 : GF RX9 265 4 7 (.array .int) true true := ⟨_, _, _, _, ci_4, by decide, (wt 149 (by decide +kernel) rfl), by decide, rfl, rfl, rfl⟩
theorem f_X9_268 : GF RX9 268 4 8 .int false false := ⟨_, _, _, _, ci_4, by decide, (wt 152 (by decide +kernel) rfl), by decide, rfl, rfl, rfl⟩
theorem f_X9_271 : GF RX9 271 2 6 (.array .int) true true := ⟨_, _, _, _, ci_2, by decide, (wt 333 (by decide +kernel) rfl), by decide, rfl, rfl, rfl⟩
theorem f_X9_281 : GF RX9 281 8 2 (.array .byte) true true := ⟨_, _, _, _, ci_8, by decide, (wt 212 (by decide +kernel) rfl), by decide, rfl, rfl, rfl⟩
theorem f_X9_284 : GF RX9 284 8 3 .int false false := ⟨_, _, _, _, ci_8, by decide, (wt 217 (by decide +kernel) rfl), by decide, rfl, rfl, rfl⟩
theorem f_X9_291 : GF RX9 291 4 9 (.array .int) true true := ⟨_, _, _, _, ci_4, by decide, (wt 155 (by decide +kernel) rfl), by decide, rfl, rfl, rfl⟩
theorem f_X9_294 : GF RX9 294 4 10 .int false false := ⟨_, _, _, _, ci_4, by decide, (wt 158 (by decide +kernel) rfl), by decide, rfl, rfl, rfl⟩
theorem f_X9_297 : GF RX9 297 8 0 (.array .byte) true true := ⟨_, _, _, _, ci_8, by decide, (wt 207 (by decide +kernel) rfl), by decide, rfl, rfl, rfl⟩
theorem f_X9_300 : GF RX9 300 8 1 .int false false := ⟨_, _, _, _, ci_8, by decide, (wt 209 (by decide +kernel) rfl), by decide, rfl, rfl, rfl⟩
theorem f_X9_303 : GF RX9 303 2 9 (.object "NameDesk$Line") true true := ⟨_, _, _, _, ci_2, by decide, (wt 339 (by decide +kernel) rfl), by decide, rfl, rfl, rfl⟩
theorem nc_L_8 : NC RL 8 9 15 := ⟨_, _, _, ci_9, (wt 76 (by decide +kernel) rfl), (wt 77 (by decide +kernel) rfl), (wt 54 (by decide +kernel) rfl), by decide +kernel⟩
theorem nc_L_18 : NC RL 18 10 49 := ⟨_, _, _, ci_10, (wt 921 (by decide +kernel) rfl), (wt 922 (by decide +kernel) rfl), (wt 64 (by decide +kernel) rfl), by decide +kernel⟩
theorem nc_X0_9 : NC RX0 9 8 4 := ⟨_, _, _, ci_8, (wt 199 (by decide +kernel) rfl), (wt 201 (by decide +kernel) rfl), (wt 59 (by decide +kernel) rfl), by decide +kernel⟩
theorem nc_X2_18 : NC RX2 18 8 4 := ⟨_, _, _, ci_8, (wt 313 (by decide +kernel) rfl), (wt 201 (by decide +kernel) rfl), (wt 59 (by decide +kernel) rfl), by decide +kernel⟩
theorem nc_X2_44 : NC RX2 44 1 2 := ⟨_, _, _, ci_1, (wt 314 (by decide +kernel) rfl), (wt 295 (by decide +kernel) rfl), (wt 62 (by decide +kernel) rfl), by decide +kernel⟩
theorem nc_X3_9 : NC RX3 9 4 13 := ⟨_, _, _, ci_4, (wt 251 (by decide +kernel) rfl), (wt 126 (by decide +kernel) rfl), (wt 57 (by decide +kernel) rfl), by decide +kernel⟩
theorem nc_X9_9 : NC RX9 9 7 2 := ⟨_, _, _, ci_7, (wt 84 (by decide +kernel) rfl), (wt 85 (by decide +kernel) rfl), (wt 55 (by decide +kernel) rfl), by decide +kernel⟩
theorem nc_X9_16 : NC RX9 16 4 13 := ⟨_, _, _, ci_4, (wt 100 (by decide +kernel) rfl), (wt 126 (by decide +kernel) rfl), (wt 57 (by decide +kernel) rfl), by decide +kernel⟩
theorem nc_X9_22 : NC RX9 22 5 5 := ⟨_, _, _, ci_5, (wt 102 (by decide +kernel) rfl), (wt 103 (by decide +kernel) rfl), (wt 56 (by decide +kernel) rfl), by decide +kernel⟩
theorem nc_X9_34 : NC RX9 34 0 4 := ⟨_, _, _, ci_0, (wt 193 (by decide +kernel) rfl), (wt 194 (by decide +kernel) rfl), (wt 58 (by decide +kernel) rfl), by decide +kernel⟩
theorem nc_X9_41 : NC RX9 41 8 4 := ⟨_, _, _, ci_8, (wt 241 (by decide +kernel) rfl), (wt 201 (by decide +kernel) rfl), (wt 59 (by decide +kernel) rfl), by decide +kernel⟩
theorem nc_X9_48 : NC RX9 48 2 10 := ⟨_, _, _, ci_2, (wt 243 (by decide +kernel) rfl), (wt 308 (by decide +kernel) rfl), (wt 63 (by decide +kernel) rfl), by decide +kernel⟩
theorem nc_X9_58 : NC RX9 58 3 8 := ⟨_, _, _, ci_3, (wt 245 (by decide +kernel) rfl), (wt 246 (by decide +kernel) rfl), (wt 60 (by decide +kernel) rfl), by decide +kernel⟩
theorem nc_X9_76 : NC RX9 76 6 2 := ⟨_, _, _, ci_6, (wt 281 (by decide +kernel) rfl), (wt 282 (by decide +kernel) rfl), (wt 61 (by decide +kernel) rfl), by decide +kernel⟩
theorem nc_X9_83 : NC RX9 83 1 2 := ⟨_, _, _, ci_1, (wt 294 (by decide +kernel) rfl), (wt 295 (by decide +kernel) rfl), (wt 62 (by decide +kernel) rfl), by decide +kernel⟩
theorem cl_X0_9 : Cond.classLink RX0 9 RX8 ∈ wtab := (wt 199 (by decide +kernel) rfl)
theorem cl_X2_18 : Cond.classLink RX2 18 RX8 ∈ wtab := (wt 313 (by decide +kernel) rfl)
theorem cl_X9_16 : Cond.classLink RX9 16 RX4 ∈ wtab := (wt 100 (by decide +kernel) rfl)
theorem cl_X9_48 : Cond.classLink RX9 48 RX2 ∈ wtab := (wt 243 (by decide +kernel) rfl)
theorem ac_byte : Cond.arrayClass .byte ∈ wtab := (wt 99 (by decide +kernel) rfl)
theorem ac_int : Cond.arrayClass .int ∈ wtab := (wt 191 (by decide +kernel) rfl)
theorem ac_long : Cond.arrayClass .long ∈ wtab := (wt 280 (by decide +kernel) rfl)
theorem ac_boolean : Cond.arrayClass .boolean ∈ wtab := (wt 192 (by decide +kernel) rfl)
theorem kl_107 : Cond.constantLong RX3 107 16777215 ∈ wtab := (wt 672 (by decide +kernel) rfl)
theorem mo_X0_add : MO M_X0_add 3 := ⟨wt 600 (by decide +kernel) rfl, (wt 58 (by decide +kernel) rfl), by decide +kernel, by decide +kernel, by decide +kernel⟩
theorem mo_X0_find : MO M_X0_find 3 := ⟨wt 588 (by decide +kernel) rfl, (wt 58 (by decide +kernel) rfl), by decide +kernel, by decide +kernel, by decide +kernel⟩
theorem mo_X0_init : MO M_X0_init 0 := ⟨wt 197 (by decide +kernel) rfl, (wt 58 (by decide +kernel) rfl), by decide +kernel, by decide +kernel, by decide +kernel⟩
theorem mo_X0_kindsOf : MO M_X0_kindsOf 3 := ⟨wt 646 (by decide +kernel) rfl, (wt 58 (by decide +kernel) rfl), by decide +kernel, by decide +kernel, by decide +kernel⟩
theorem mo_X0_remove : MO M_X0_remove 1 := ⟨wt 612 (by decide +kernel) rfl, (wt 58 (by decide +kernel) rfl), by decide +kernel, by decide +kernel, by decide +kernel⟩
theorem mo_X10_agree : MO M_X10_agree 2 := ⟨wt 1235 (by decide +kernel) rfl, (wt 64 (by decide +kernel) rfl), by decide +kernel, by decide +kernel, by decide +kernel⟩
theorem mo_X10_ahead : MO M_X10_ahead 2 := ⟨wt 1211 (by decide +kernel) rfl, (wt 64 (by decide +kernel) rfl), by decide +kernel, by decide +kernel, by decide +kernel⟩
theorem mo_X10_alike : MO M_X10_alike 2 := ⟨wt 1255 (by decide +kernel) rfl, (wt 64 (by decide +kernel) rfl), by decide +kernel, by decide +kernel, by decide +kernel⟩
theorem mo_X10_compare : MO M_X10_compare 2 := ⟨wt 1215 (by decide +kernel) rfl, (wt 64 (by decide +kernel) rfl), by decide +kernel, by decide +kernel, by decide +kernel⟩
theorem mo_X10_cost : MO M_X10_cost 2 := ⟨wt 1167 (by decide +kernel) rfl, (wt 64 (by decide +kernel) rfl), by decide +kernel, by decide +kernel, by decide +kernel⟩
theorem mo_X10_costOf : MO M_X10_costOf 3 := ⟨wt 1155 (by decide +kernel) rfl, (wt 64 (by decide +kernel) rfl), by decide +kernel, by decide +kernel, by decide +kernel⟩
theorem mo_X10_count : MO M_X10_count 1 := ⟨wt 1263 (by decide +kernel) rfl, (wt 64 (by decide +kernel) rfl), by decide +kernel, by decide +kernel, by decide +kernel⟩
theorem mo_X10_endingRead : MO M_X10_endingRead 0 := ⟨wt 1109 (by decide +kernel) rfl, (wt 64 (by decide +kernel) rfl), by decide +kernel, by decide +kernel, by decide +kernel⟩
theorem mo_X10_entry : MO M_X10_entry 5 := ⟨wt 1131 (by decide +kernel) rfl, (wt 64 (by decide +kernel) rfl), by decide +kernel, by decide +kernel, by decide +kernel⟩
theorem mo_X10_fails : MO M_X10_fails 1 := ⟨wt 1187 (by decide +kernel) rfl, (wt 64 (by decide +kernel) rfl), by decide +kernel, by decide +kernel, by decide +kernel⟩
theorem mo_X10_fallen : MO M_X10_fallen 0 := ⟨wt 1251 (by decide +kernel) rfl, (wt 64 (by decide +kernel) rfl), by decide +kernel, by decide +kernel, by decide +kernel⟩
theorem mo_X10_father : MO M_X10_father 2 := ⟨wt 1243 (by decide +kernel) rfl, (wt 64 (by decide +kernel) rfl), by decide +kernel, by decide +kernel, by decide +kernel⟩
theorem mo_X10_fault : MO M_X10_fault 1 := ⟨wt 1113 (by decide +kernel) rfl, (wt 64 (by decide +kernel) rfl), by decide +kernel, by decide +kernel, by decide +kernel⟩
theorem mo_X10_feed : MO M_X10_feed 5 := ⟨wt 1082 (by decide +kernel) rfl, (wt 64 (by decide +kernel) rfl), by decide +kernel, by decide +kernel, by decide +kernel⟩
theorem mo_X10_fill : MO M_X10_fill 1 := ⟨wt 1151 (by decide +kernel) rfl, (wt 64 (by decide +kernel) rfl), by decide +kernel, by decide +kernel, by decide +kernel⟩
theorem mo_X10_first : MO M_X10_first 1 := ⟨wt 1199 (by decide +kernel) rfl, (wt 64 (by decide +kernel) rfl), by decide +kernel, by decide +kernel, by decide +kernel⟩
theorem mo_X10_firstAll : MO M_X10_firstAll 0 := ⟨wt 1195 (by decide +kernel) rfl, (wt 64 (by decide +kernel) rfl), by decide +kernel, by decide +kernel, by decide +kernel⟩
theorem mo_X10_forget : MO M_X10_forget 3 := ⟨wt 1135 (by decide +kernel) rfl, (wt 64 (by decide +kernel) rfl), by decide +kernel, by decide +kernel, by decide +kernel⟩
theorem mo_X10_goes : MO M_X10_goes 3 := ⟨wt 1163 (by decide +kernel) rfl, (wt 64 (by decide +kernel) rfl), by decide +kernel, by decide +kernel, by decide +kernel⟩
theorem mo_X10_init : MO M_X10_init 0 := ⟨wt 925 (by decide +kernel) rfl, (wt 64 (by decide +kernel) rfl), by decide +kernel, by decide +kernel, by decide +kernel⟩
theorem mo_X10_isKept : MO M_X10_isKept 1 := ⟨wt 1120 (by decide +kernel) rfl, (wt 64 (by decide +kernel) rfl), by decide +kernel, by decide +kernel, by decide +kernel⟩
theorem mo_X10_isLetter : MO M_X10_isLetter 1 := ⟨wt 1127 (by decide +kernel) rfl, (wt 64 (by decide +kernel) rfl), by decide +kernel, by decide +kernel, by decide +kernel⟩
theorem mo_X10_isName : MO M_X10_isName 1 := ⟨wt 1147 (by decide +kernel) rfl, (wt 64 (by decide +kernel) rfl), by decide +kernel, by decide +kernel, by decide +kernel⟩
theorem mo_X10_isWord : MO M_X10_isWord 2 := ⟨wt 1124 (by decide +kernel) rfl, (wt 64 (by decide +kernel) rfl), by decide +kernel, by decide +kernel, by decide +kernel⟩
theorem mo_X10_kind : MO M_X10_kind 3 := ⟨wt 1175 (by decide +kernel) rfl, (wt 64 (by decide +kernel) rfl), by decide +kernel, by decide +kernel, by decide +kernel⟩
theorem mo_X10_kindIn : MO M_X10_kindIn 3 := ⟨wt 1179 (by decide +kernel) rfl, (wt 64 (by decide +kernel) rfl), by decide +kernel, by decide +kernel, by decide +kernel⟩
theorem mo_X10_kindOf : MO M_X10_kindOf 1 := ⟨wt 1097 (by decide +kernel) rfl, (wt 64 (by decide +kernel) rfl), by decide +kernel, by decide +kernel, by decide +kernel⟩
theorem mo_X10_know : MO M_X10_know 3 := ⟨wt 1117 (by decide +kernel) rfl, (wt 64 (by decide +kernel) rfl), by decide +kernel, by decide +kernel, by decide +kernel⟩
theorem mo_X10_lettersRead : MO M_X10_lettersRead 1 := ⟨wt 1105 (by decide +kernel) rfl, (wt 64 (by decide +kernel) rfl), by decide +kernel, by decide +kernel, by decide +kernel⟩
theorem mo_X10_look : MO M_X10_look 2 := ⟨wt 1183 (by decide +kernel) rfl, (wt 64 (by decide +kernel) rfl), by decide +kernel, by decide +kernel, by decide +kernel⟩
theorem mo_X10_name : MO M_X10_name 2 := ⟨wt 1139 (by decide +kernel) rfl, (wt 64 (by decide +kernel) rfl), by decide +kernel, by decide +kernel, by decide +kernel⟩
theorem mo_X10_order : MO M_X10_order 1 := ⟨wt 1223 (by decide +kernel) rfl, (wt 64 (by decide +kernel) rfl), by decide +kernel, by decide +kernel, by decide +kernel⟩
theorem mo_X10_orderAll : MO M_X10_orderAll 0 := ⟨wt 1191 (by decide +kernel) rfl, (wt 64 (by decide +kernel) rfl), by decide +kernel, by decide +kernel, by decide +kernel⟩
theorem mo_X10_over : MO M_X10_over 2 := ⟨wt 1231 (by decide +kernel) rfl, (wt 64 (by decide +kernel) rfl), by decide +kernel, by decide +kernel, by decide +kernel⟩
theorem mo_X10_overAlike : MO M_X10_overAlike 2 := ⟨wt 1259 (by decide +kernel) rfl, (wt 64 (by decide +kernel) rfl), by decide +kernel, by decide +kernel, by decide +kernel⟩
theorem mo_X10_pick : MO M_X10_pick 2 := ⟨wt 1203 (by decide +kernel) rfl, (wt 64 (by decide +kernel) rfl), by decide +kernel, by decide +kernel, by decide +kernel⟩
theorem mo_X10_placeOf : MO M_X10_placeOf 1 := ⟨wt 1207 (by decide +kernel) rfl, (wt 64 (by decide +kernel) rfl), by decide +kernel, by decide +kernel, by decide +kernel⟩
theorem mo_X10_reading : MO M_X10_reading 2 := ⟨wt 1171 (by decide +kernel) rfl, (wt 64 (by decide +kernel) rfl), by decide +kernel, by decide +kernel, by decide +kernel⟩
theorem mo_X10_readings : MO M_X10_readings 2 := ⟨wt 1143 (by decide +kernel) rfl, (wt 64 (by decide +kernel) rfl), by decide +kernel, by decide +kernel, by decide +kernel⟩
theorem mo_X10_see : MO M_X10_see 0 := ⟨wt 1094 (by decide +kernel) rfl, (wt 64 (by decide +kernel) rfl), by decide +kernel, by decide +kernel, by decide +kernel⟩
theorem mo_X10_shape : MO M_X10_shape 2 := ⟨wt 1086 (by decide +kernel) rfl, (wt 64 (by decide +kernel) rfl), by decide +kernel, by decide +kernel, by decide +kernel⟩
theorem mo_X10_sign : MO M_X10_sign 3 := ⟨wt 1227 (by decide +kernel) rfl, (wt 64 (by decide +kernel) rfl), by decide +kernel, by decide +kernel, by decide +kernel⟩
theorem mo_X10_signs : MO M_X10_signs 2 := ⟨wt 1219 (by decide +kernel) rfl, (wt 64 (by decide +kernel) rfl), by decide +kernel, by decide +kernel, by decide +kernel⟩
theorem mo_X10_slips : MO M_X10_slips 2 := ⟨wt 1159 (by decide +kernel) rfl, (wt 64 (by decide +kernel) rfl), by decide +kernel, by decide +kernel, by decide +kernel⟩
theorem mo_X10_slotsRead : MO M_X10_slotsRead 0 := ⟨wt 1090 (by decide +kernel) rfl, (wt 64 (by decide +kernel) rfl), by decide +kernel, by decide +kernel, by decide +kernel⟩
theorem mo_X10_table : MO M_X10_table 2 := ⟨wt 1247 (by decide +kernel) rfl, (wt 64 (by decide +kernel) rfl), by decide +kernel, by decide +kernel, by decide +kernel⟩
theorem mo_X10_thrown : MO M_X10_thrown 0 := ⟨wt 1078 (by decide +kernel) rfl, (wt 64 (by decide +kernel) rfl), by decide +kernel, by decide +kernel, by decide +kernel⟩
theorem mo_X10_wordOf : MO M_X10_wordOf 4 := ⟨wt 1239 (by decide +kernel) rfl, (wt 64 (by decide +kernel) rfl), by decide +kernel, by decide +kernel, by decide +kernel⟩
theorem mo_X10_wrong : MO M_X10_wrong 2 := ⟨wt 1101 (by decide +kernel) rfl, (wt 64 (by decide +kernel) rfl), by decide +kernel, by decide +kernel, by decide +kernel⟩
theorem mo_X1_add : MO M_X1_add 1 := ⟨wt 756 (by decide +kernel) rfl, (wt 62 (by decide +kernel) rfl), by decide +kernel, by decide +kernel, by decide +kernel⟩
theorem mo_X1_addWord : MO M_X1_addWord 3 := ⟨wt 760 (by decide +kernel) rfl, (wt 62 (by decide +kernel) rfl), by decide +kernel, by decide +kernel, by decide +kernel⟩
theorem mo_X1_alike : MO M_X1_alike 1 := ⟨wt 812 (by decide +kernel) rfl, (wt 62 (by decide +kernel) rfl), by decide +kernel, by decide +kernel, by decide +kernel⟩
theorem mo_X1_init : MO M_X1_init 0 := ⟨wt 298 (by decide +kernel) rfl, (wt 62 (by decide +kernel) rfl), by decide +kernel, by decide +kernel, by decide +kernel⟩
theorem mo_X1_signAt : MO M_X1_signAt 1 := ⟨wt 765 (by decide +kernel) rfl, (wt 62 (by decide +kernel) rfl), by decide +kernel, by decide +kernel, by decide +kernel⟩
theorem mo_X2_alikeFolded : MO M_X2_alikeFolded 1 := ⟨wt 816 (by decide +kernel) rfl, (wt 63 (by decide +kernel) rfl), by decide +kernel, by decide +kernel, by decide +kernel⟩
theorem mo_X2_choose : MO M_X2_choose 3 := ⟨wt 728 (by decide +kernel) rfl, (wt 63 (by decide +kernel) rfl), by decide +kernel, by decide +kernel, by decide +kernel⟩
theorem mo_X2_init : MO M_X2_init 0 := ⟨wt 311 (by decide +kernel) rfl, (wt 63 (by decide +kernel) rfl), by decide +kernel, by decide +kernel, by decide +kernel⟩
theorem mo_X2_isBefore : MO M_X2_isBefore 1 := ⟨wt 732 (by decide +kernel) rfl, (wt 63 (by decide +kernel) rfl), by decide +kernel, by decide +kernel, by decide +kernel⟩
theorem mo_X2_nextOf : MO M_X2_nextOf 2 := ⟨wt 776 (by decide +kernel) rfl, (wt 63 (by decide +kernel) rfl), by decide +kernel, by decide +kernel, by decide +kernel⟩
theorem mo_X2_take : MO M_X2_take 2 := ⟨wt 620 (by decide +kernel) rfl, (wt 63 (by decide +kernel) rfl), by decide +kernel, by decide +kernel, by decide +kernel⟩
theorem mo_X3_costIn : MO M_X3_costIn 1 := ⟨wt 683 (by decide +kernel) rfl, (wt 60 (by decide +kernel) rfl), by decide +kernel, by decide +kernel, by decide +kernel⟩
theorem mo_X3_costOfRow : MO M_X3_costOfRow 1 := ⟨wt 696 (by decide +kernel) rfl, (wt 60 (by decide +kernel) rfl), by decide +kernel, by decide +kernel, by decide +kernel⟩
theorem mo_X3_init : MO M_X3_init 0 := ⟨wt 249 (by decide +kernel) rfl, (wt 60 (by decide +kernel) rfl), by decide +kernel, by decide +kernel, by decide +kernel⟩
theorem mo_X3_isRow : MO M_X3_isRow 1 := ⟨wt 700 (by decide +kernel) rfl, (wt 60 (by decide +kernel) rfl), by decide +kernel, by decide +kernel, by decide +kernel⟩
theorem mo_X3_kindInRow : MO M_X3_kindInRow 2 := ⟨wt 708 (by decide +kernel) rfl, (wt 60 (by decide +kernel) rfl), by decide +kernel, by decide +kernel, by decide +kernel⟩
theorem mo_X3_leastFrom : MO M_X3_leastFrom 2 := ⟨wt 659 (by decide +kernel) rfl, (wt 60 (by decide +kernel) rfl), by decide +kernel, by decide +kernel, by decide +kernel⟩
theorem mo_X3_lengthenRows : MO M_X3_lengthenRows 1 := ⟨wt 667 (by decide +kernel) rfl, (wt 60 (by decide +kernel) rfl), by decide +kernel, by decide +kernel, by decide +kernel⟩
theorem mo_X3_listRows : MO M_X3_listRows 0 := ⟨wt 663 (by decide +kernel) rfl, (wt 60 (by decide +kernel) rfl), by decide +kernel, by decide +kernel, by decide +kernel⟩
theorem mo_X3_readFirst : MO M_X3_readFirst 1 := ⟨wt 724 (by decide +kernel) rfl, (wt 60 (by decide +kernel) rfl), by decide +kernel, by decide +kernel, by decide +kernel⟩
theorem mo_X3_rowsUpTo : MO M_X3_rowsUpTo 1 := ⟨wt 688 (by decide +kernel) rfl, (wt 60 (by decide +kernel) rfl), by decide +kernel, by decide +kernel, by decide +kernel⟩
theorem mo_X3_sortByCost : MO M_X3_sortByCost 0 := ⟨wt 680 (by decide +kernel) rfl, (wt 60 (by decide +kernel) rfl), by decide +kernel, by decide +kernel, by decide +kernel⟩
theorem mo_X3_swapRows : MO M_X3_swapRows 0 := ⟨wt 676 (by decide +kernel) rfl, (wt 60 (by decide +kernel) rfl), by decide +kernel, by decide +kernel, by decide +kernel⟩
theorem mo_X3_weigh : MO M_X3_weigh 3 := ⟨wt 637 (by decide +kernel) rfl, (wt 60 (by decide +kernel) rfl), by decide +kernel, by decide +kernel, by decide +kernel⟩
theorem mo_X3_weighWord : MO M_X3_weighWord 4 := ⟨wt 642 (by decide +kernel) rfl, (wt 60 (by decide +kernel) rfl), by decide +kernel, by decide +kernel, by decide +kernel⟩
theorem mo_X4_init : MO M_X4_init 0 := ⟨wt 129 (by decide +kernel) rfl, (wt 57 (by decide +kernel) rfl), by decide +kernel, by decide +kernel, by decide +kernel⟩
theorem mo_X4_isMade : MO M_X4_isMade 1 := ⟨wt 651 (by decide +kernel) rfl, (wt 57 (by decide +kernel) rfl), by decide +kernel, by decide +kernel, by decide +kernel⟩
theorem mo_X4_link : MO M_X4_link 0 := ⟨wt 552 (by decide +kernel) rfl, (wt 57 (by decide +kernel) rfl), by decide +kernel, by decide +kernel, by decide +kernel⟩
theorem mo_X4_makes : MO M_X4_makes 2 := ⟨wt 793 (by decide +kernel) rfl, (wt 57 (by decide +kernel) rfl), by decide +kernel, by decide +kernel, by decide +kernel⟩
theorem mo_X4_openBehind : MO M_X4_openBehind 2 := ⟨wt 671 (by decide +kernel) rfl, (wt 57 (by decide +kernel) rfl), by decide +kernel, by decide +kernel, by decide +kernel⟩
theorem mo_X4_openFrom : MO M_X4_openFrom 1 := ⟨wt 556 (by decide +kernel) rfl, (wt 57 (by decide +kernel) rfl), by decide +kernel, by decide +kernel, by decide +kernel⟩
theorem mo_X5_here : MO M_X5_here 0 := ⟨wt 444 (by decide +kernel) rfl, (wt 56 (by decide +kernel) rfl), by decide +kernel, by decide +kernel, by decide +kernel⟩
theorem mo_X5_init : MO M_X5_init 0 := ⟨wt 106 (by decide +kernel) rfl, (wt 56 (by decide +kernel) rfl), by decide +kernel, by decide +kernel, by decide +kernel⟩
theorem mo_X5_kindHere : MO M_X5_kindHere 0 := ⟨wt 440 (by decide +kernel) rfl, (wt 56 (by decide +kernel) rfl), by decide +kernel, by decide +kernel, by decide +kernel⟩
theorem mo_X5_pass : MO M_X5_pass 1 := ⟨wt 533 (by decide +kernel) rfl, (wt 56 (by decide +kernel) rfl), by decide +kernel, by decide +kernel, by decide +kernel⟩
theorem mo_X5_readEnding : MO M_X5_readEnding 1 := ⟨wt 545 (by decide +kernel) rfl, (wt 56 (by decide +kernel) rfl), by decide +kernel, by decide +kernel, by decide +kernel⟩
theorem mo_X5_readInto : MO M_X5_readInto 3 := ⟨wt 429 (by decide +kernel) rfl, (wt 56 (by decide +kernel) rfl), by decide +kernel, by decide +kernel, by decide +kernel⟩
theorem mo_X5_readLetters : MO M_X5_readLetters 1 := ⟨wt 541 (by decide +kernel) rfl, (wt 56 (by decide +kernel) rfl), by decide +kernel, by decide +kernel, by decide +kernel⟩
theorem mo_X5_readSlots : MO M_X5_readSlots 1 := ⟨wt 436 (by decide +kernel) rfl, (wt 56 (by decide +kernel) rfl), by decide +kernel, by decide +kernel, by decide +kernel⟩
theorem mo_X5_stopWith : MO M_X5_stopWith 1 := ⟨wt 537 (by decide +kernel) rfl, (wt 56 (by decide +kernel) rfl), by decide +kernel, by decide +kernel, by decide +kernel⟩
theorem mo_X6_change : MO M_X6_change 3 := ⟨wt 803 (by decide +kernel) rfl, (wt 61 (by decide +kernel) rfl), by decide +kernel, by decide +kernel, by decide +kernel⟩
theorem mo_X6_init : MO M_X6_init 0 := ⟨wt 285 (by decide +kernel) rfl, (wt 61 (by decide +kernel) rfl), by decide +kernel, by decide +kernel, by decide +kernel⟩
theorem mo_X6_putOver : MO M_X6_putOver 3 := ⟨wt 752 (by decide +kernel) rfl, (wt 61 (by decide +kernel) rfl), by decide +kernel, by decide +kernel, by decide +kernel⟩
theorem mo_X7_add : MO M_X7_add 1 := ⟨wt 414 (by decide +kernel) rfl, (wt 55 (by decide +kernel) rfl), by decide +kernel, by decide +kernel, by decide +kernel⟩
theorem mo_X7_holds : MO M_X7_holds 1 := ⟨wt 425 (by decide +kernel) rfl, (wt 55 (by decide +kernel) rfl), by decide +kernel, by decide +kernel, by decide +kernel⟩
theorem mo_X7_init : MO M_X7_init 0 := ⟨wt 88 (by decide +kernel) rfl, (wt 55 (by decide +kernel) rfl), by decide +kernel, by decide +kernel, by decide +kernel⟩
theorem mo_X8_alike : MO M_X8_alike 1 := ⟨wt 592 (by decide +kernel) rfl, (wt 59 (by decide +kernel) rfl), by decide +kernel, by decide +kernel, by decide +kernel⟩
theorem mo_X8_compareLetters : MO M_X8_compareLetters 1 := ⟨wt 736 (by decide +kernel) rfl, (wt 59 (by decide +kernel) rfl), by decide +kernel, by decide +kernel, by decide +kernel⟩
theorem mo_X8_copyLetters : MO M_X8_copyLetters 1 := ⟨wt 604 (by decide +kernel) rfl, (wt 59 (by decide +kernel) rfl), by decide +kernel, by decide +kernel, by decide +kernel⟩
theorem mo_X8_endsWith : MO M_X8_endsWith 2 := ⟨wt 655 (by decide +kernel) rfl, (wt 59 (by decide +kernel) rfl), by decide +kernel, by decide +kernel, by decide +kernel⟩
theorem mo_X8_fits : MO M_X8_fits 1 := ⟨wt 784 (by decide +kernel) rfl, (wt 59 (by decide +kernel) rfl), by decide +kernel, by decide +kernel, by decide +kernel⟩
theorem mo_X8_init : MO M_X8_init 0 := ⟨wt 204 (by decide +kernel) rfl, (wt 59 (by decide +kernel) rfl), by decide +kernel, by decide +kernel, by decide +kernel⟩
theorem mo_X8_isBeginning : MO M_X8_isBeginning 2 := ⟨wt 596 (by decide +kernel) rfl, (wt 59 (by decide +kernel) rfl), by decide +kernel, by decide +kernel, by decide +kernel⟩
theorem mo_X8_take : MO M_X8_take 3 := ⟨wt 576 (by decide +kernel) rfl, (wt 59 (by decide +kernel) rfl), by decide +kernel, by decide +kernel, by decide +kernel⟩
theorem mo_X8_takeSign : MO M_X8_takeSign 1 := ⟨wt 580 (by decide +kernel) rfl, (wt 59 (by decide +kernel) rfl), by decide +kernel, by decide +kernel, by decide +kernel⟩
theorem mo_X9_agree : MO M_X9_agree 2 := ⟨wt 769 (by decide +kernel) rfl, (wt 54 (by decide +kernel) rfl), by decide +kernel, by decide +kernel, by decide +kernel⟩
theorem mo_X9_cost : MO M_X9_cost 2 := ⟨wt 692 (by decide +kernel) rfl, (wt 54 (by decide +kernel) rfl), by decide +kernel, by decide +kernel, by decide +kernel⟩
theorem mo_X9_count : MO M_X9_count 1 := ⟨wt 821 (by decide +kernel) rfl, (wt 54 (by decide +kernel) rfl), by decide +kernel, by decide +kernel, by decide +kernel⟩
theorem mo_X9_fallen : MO M_X9_fallen 0 := ⟨wt 808 (by decide +kernel) rfl, (wt 54 (by decide +kernel) rfl), by decide +kernel, by decide +kernel, by decide +kernel⟩
theorem mo_X9_father : MO M_X9_father 2 := ⟨wt 789 (by decide +kernel) rfl, (wt 54 (by decide +kernel) rfl), by decide +kernel, by decide +kernel, by decide +kernel⟩
theorem mo_X9_fault : MO M_X9_fault 1 := ⟨wt 564 (by decide +kernel) rfl, (wt 54 (by decide +kernel) rfl), by decide +kernel, by decide +kernel, by decide +kernel⟩
theorem mo_X9_feed : MO M_X9_feed 5 := ⟨wt 410 (by decide +kernel) rfl, (wt 54 (by decide +kernel) rfl), by decide +kernel, by decide +kernel, by decide +kernel⟩
theorem mo_X9_fittingGiven : MO M_X9_fittingGiven 2 := ⟨wt 780 (by decide +kernel) rfl, (wt 54 (by decide +kernel) rfl), by decide +kernel, by decide +kernel, by decide +kernel⟩
theorem mo_X9_forget : MO M_X9_forget 3 := ⟨wt 608 (by decide +kernel) rfl, (wt 54 (by decide +kernel) rfl), by decide +kernel, by decide +kernel, by decide +kernel⟩
theorem mo_X9_freshName : MO M_X9_freshName 1 := ⟨wt 720 (by decide +kernel) rfl, (wt 54 (by decide +kernel) rfl), by decide +kernel, by decide +kernel, by decide +kernel⟩
theorem mo_X9_init : MO M_X9_init 0 := ⟨wt 80 (by decide +kernel) rfl, (wt 54 (by decide +kernel) rfl), by decide +kernel, by decide +kernel, by decide +kernel⟩
theorem mo_X9_isBig : MO M_X9_isBig 1 := ⟨wt 584 (by decide +kernel) rfl, (wt 54 (by decide +kernel) rfl), by decide +kernel, by decide +kernel, by decide +kernel⟩
theorem mo_X9_isEntry : MO M_X9_isEntry 3 := ⟨wt 572 (by decide +kernel) rfl, (wt 54 (by decide +kernel) rfl), by decide +kernel, by decide +kernel, by decide +kernel⟩
theorem mo_X9_isLand : MO M_X9_isLand 1 := ⟨wt 421 (by decide +kernel) rfl, (wt 54 (by decide +kernel) rfl), by decide +kernel, by decide +kernel, by decide +kernel⟩
theorem mo_X9_isName : MO M_X9_isName 1 := ⟨wt 629 (by decide +kernel) rfl, (wt 54 (by decide +kernel) rfl), by decide +kernel, by decide +kernel, by decide +kernel⟩
theorem mo_X9_isSmall : MO M_X9_isSmall 1 := ⟨wt 548 (by decide +kernel) rfl, (wt 54 (by decide +kernel) rfl), by decide +kernel, by decide +kernel, by decide +kernel⟩
theorem mo_X9_kind : MO M_X9_kind 3 := ⟨wt 704 (by decide +kernel) rfl, (wt 54 (by decide +kernel) rfl), by decide +kernel, by decide +kernel, by decide +kernel⟩
theorem mo_X9_know : MO M_X9_know 3 := ⟨wt 568 (by decide +kernel) rfl, (wt 54 (by decide +kernel) rfl), by decide +kernel, by decide +kernel, by decide +kernel⟩
theorem mo_X9_landChanged : MO M_X9_landChanged 1 := ⟨wt 560 (by decide +kernel) rfl, (wt 54 (by decide +kernel) rfl), by decide +kernel, by decide +kernel, by decide +kernel⟩
theorem mo_X9_lineOf : MO M_X9_lineOf 2 := ⟨wt 744 (by decide +kernel) rfl, (wt 54 (by decide +kernel) rfl), by decide +kernel, by decide +kernel, by decide +kernel⟩
theorem mo_X9_listReadings : MO M_X9_listReadings 1 := ⟨wt 633 (by decide +kernel) rfl, (wt 54 (by decide +kernel) rfl), by decide +kernel, by decide +kernel, by decide +kernel⟩
theorem mo_X9_look : MO M_X9_look 2 := ⟨wt 834 (by decide +kernel) rfl, (wt 54 (by decide +kernel) rfl), by decide +kernel, by decide +kernel, by decide +kernel⟩
theorem mo_X9_name : MO M_X9_name 2 := ⟨wt 616 (by decide +kernel) rfl, (wt 54 (by decide +kernel) rfl), by decide +kernel, by decide +kernel, by decide +kernel⟩
theorem mo_X9_order : MO M_X9_order 1 := ⟨wt 712 (by decide +kernel) rfl, (wt 54 (by decide +kernel) rfl), by decide +kernel, by decide +kernel, by decide +kernel⟩
theorem mo_X9_placeInRanking : MO M_X9_placeInRanking 1 := ⟨wt 904 (by decide +kernel) rfl, (wt 54 (by decide +kernel) rfl), by decide +kernel, by decide +kernel, by decide +kernel⟩
theorem mo_X9_putLine : MO M_X9_putLine 1 := ⟨wt 748 (by decide +kernel) rfl, (wt 54 (by decide +kernel) rfl), by decide +kernel, by decide +kernel, by decide +kernel⟩
theorem mo_X9_rank : MO M_X9_rank 0 := ⟨wt 716 (by decide +kernel) rfl, (wt 54 (by decide +kernel) rfl), by decide +kernel, by decide +kernel, by decide +kernel⟩
theorem mo_X9_readings : MO M_X9_readings 2 := ⟨wt 625 (by decide +kernel) rfl, (wt 54 (by decide +kernel) rfl), by decide +kernel, by decide +kernel, by decide +kernel⟩
theorem mo_X9_sameFamily : MO M_X9_sameFamily 2 := ⟨wt 772 (by decide +kernel) rfl, (wt 54 (by decide +kernel) rfl), by decide +kernel, by decide +kernel, by decide +kernel⟩
theorem mo_X9_shape : MO M_X9_shape 2 := ⟨wt 418 (by decide +kernel) rfl, (wt 54 (by decide +kernel) rfl), by decide +kernel, by decide +kernel, by decide +kernel⟩
theorem mo_X9_shapeCount : MO M_X9_shapeCount 0 := ⟨wt 825 (by decide +kernel) rfl, (wt 54 (by decide +kernel) rfl), by decide +kernel, by decide +kernel, by decide +kernel⟩
theorem mo_X9_sign : MO M_X9_sign 3 := ⟨wt 740 (by decide +kernel) rfl, (wt 54 (by decide +kernel) rfl), by decide +kernel, by decide +kernel, by decide +kernel⟩
theorem mo_X9_table : MO M_X9_table 2 := ⟨wt 799 (by decide +kernel) rfl, (wt 54 (by decide +kernel) rfl), by decide +kernel, by decide +kernel, by decide +kernel⟩
theorem k_L_17 : LI RL 17 M_X9_init := ⟨(wt 78 (by decide +kernel) rfl), (wt 79 (by decide +kernel) rfl), rfl, rfl⟩
theorem k_L_20 : LI RL 20 M_X10_init := ⟨(wt 923 (by decide +kernel) rfl), (wt 924 (by decide +kernel) rfl), rfl, rfl⟩
theorem k_L_21 : LV RL 21 9 M_X9_feed := ⟨(wt 407 (by decide +kernel) rfl), (wt 408 (by decide +kernel) rfl), (wt 409 (by decide +kernel) rfl), _, rfl, rfl, by decide⟩
theorem k_L_25 : LV RL 25 10 M_X10_feed := ⟨(wt 1079 (by decide +kernel) rfl), (wt 1080 (by decide +kernel) rfl), (wt 1081 (by decide +kernel) rfl), _, rfl, rfl, by decide⟩
theorem k_L_26 : LV RL 26 9 M_X9_shape := ⟨(wt 415 (by decide +kernel) rfl), (wt 416 (by decide +kernel) rfl), (wt 417 (by decide +kernel) rfl), _, rfl, rfl, by decide⟩
theorem k_L_29 : LV RL 29 10 M_X10_shape := ⟨(wt 1083 (by decide +kernel) rfl), (wt 1084 (by decide +kernel) rfl), (wt 1085 (by decide +kernel) rfl), _, rfl, rfl, by decide⟩
theorem k_L_30 : LV RL 30 9 M_X9_fault := ⟨(wt 561 (by decide +kernel) rfl), (wt 562 (by decide +kernel) rfl), (wt 563 (by decide +kernel) rfl), _, rfl, rfl, by decide⟩
theorem k_L_34 : LV RL 34 10 M_X10_fault := ⟨(wt 1110 (by decide +kernel) rfl), (wt 1111 (by decide +kernel) rfl), (wt 1112 (by decide +kernel) rfl), _, rfl, rfl, by decide⟩
theorem k_L_35 : LV RL 35 9 M_X9_know := ⟨(wt 565 (by decide +kernel) rfl), (wt 566 (by decide +kernel) rfl), (wt 567 (by decide +kernel) rfl), _, rfl, rfl, by decide⟩
theorem k_L_39 : LV RL 39 10 M_X10_know := ⟨(wt 1114 (by decide +kernel) rfl), (wt 1115 (by decide +kernel) rfl), (wt 1116 (by decide +kernel) rfl), _, rfl, rfl, by decide⟩
theorem k_L_40 : LV RL 40 9 M_X9_forget := ⟨(wt 605 (by decide +kernel) rfl), (wt 606 (by decide +kernel) rfl), (wt 607 (by decide +kernel) rfl), _, rfl, rfl, by decide⟩
theorem k_L_44 : LV RL 44 10 M_X10_forget := ⟨(wt 1132 (by decide +kernel) rfl), (wt 1133 (by decide +kernel) rfl), (wt 1134 (by decide +kernel) rfl), _, rfl, rfl, by decide⟩
theorem k_L_45 : LV RL 45 9 M_X9_name := ⟨(wt 613 (by decide +kernel) rfl), (wt 614 (by decide +kernel) rfl), (wt 615 (by decide +kernel) rfl), _, rfl, rfl, by decide⟩
theorem k_L_48 : LV RL 48 10 M_X10_name := ⟨(wt 1136 (by decide +kernel) rfl), (wt 1137 (by decide +kernel) rfl), (wt 1138 (by decide +kernel) rfl), _, rfl, rfl, by decide⟩
theorem k_L_49 : LV RL 49 9 M_X9_readings := ⟨(wt 622 (by decide +kernel) rfl), (wt 623 (by decide +kernel) rfl), (wt 624 (by decide +kernel) rfl), _, rfl, rfl, by decide⟩
theorem k_L_52 : LV RL 52 10 M_X10_readings := ⟨(wt 1140 (by decide +kernel) rfl), (wt 1141 (by decide +kernel) rfl), (wt 1142 (by decide +kernel) rfl), _, rfl, rfl, by decide⟩
theorem k_L_53 : LV RL 53 9 M_X9_cost := ⟨(wt 689 (by decide +kernel) rfl), (wt 690 (by decide +kernel) rfl), (wt 691 (by decide +kernel) rfl), _, rfl, rfl, by decide⟩
theorem k_L_56 : LV RL 56 10 M_X10_cost := ⟨(wt 1164 (by decide +kernel) rfl), (wt 1165 (by decide +kernel) rfl), (wt 1166 (by decide +kernel) rfl), _, rfl, rfl, by decide⟩
theorem k_L_57 : LV RL 57 9 M_X9_kind := ⟨(wt 701 (by decide +kernel) rfl), (wt 702 (by decide +kernel) rfl), (wt 703 (by decide +kernel) rfl), _, rfl, rfl, by decide⟩
theorem k_L_60 : LV RL 60 10 M_X10_kind := ⟨(wt 1172 (by decide +kernel) rfl), (wt 1173 (by decide +kernel) rfl), (wt 1174 (by decide +kernel) rfl), _, rfl, rfl, by decide⟩
theorem k_L_66 : LV RL 66 10 M_X10_look := ⟨(wt 1180 (by decide +kernel) rfl), (wt 1181 (by decide +kernel) rfl), (wt 1182 (by decide +kernel) rfl), _, rfl, rfl, by decide⟩
theorem k_L_67 : LV RL 67 10 M_X10_thrown := ⟨(wt 1075 (by decide +kernel) rfl), (wt 1076 (by decide +kernel) rfl), (wt 1077 (by decide +kernel) rfl), _, rfl, rfl, by decide⟩
theorem k_L_7 : LV RL 7 9 M_X9_look := ⟨(wt 831 (by decide +kernel) rfl), (wt 832 (by decide +kernel) rfl), (wt 833 (by decide +kernel) rfl), _, rfl, rfl, by decide⟩
theorem k_L_71 : LV RL 71 9 M_X9_order := ⟨(wt 709 (by decide +kernel) rfl), (wt 710 (by decide +kernel) rfl), (wt 711 (by decide +kernel) rfl), _, rfl, rfl, by decide⟩
theorem k_L_74 : LV RL 74 10 M_X10_order := ⟨(wt 1220 (by decide +kernel) rfl), (wt 1221 (by decide +kernel) rfl), (wt 1222 (by decide +kernel) rfl), _, rfl, rfl, by decide⟩
theorem k_L_75 : LV RL 75 9 M_X9_sign := ⟨(wt 737 (by decide +kernel) rfl), (wt 738 (by decide +kernel) rfl), (wt 739 (by decide +kernel) rfl), _, rfl, rfl, by decide⟩
theorem k_L_78 : LV RL 78 10 M_X10_sign := ⟨(wt 1224 (by decide +kernel) rfl), (wt 1225 (by decide +kernel) rfl), (wt 1226 (by decide +kernel) rfl), _, rfl, rfl, by decide⟩
theorem k_L_79 : LV RL 79 9 M_X9_agree := ⟨(wt 766 (by decide +kernel) rfl), (wt 767 (by decide +kernel) rfl), (wt 768 (by decide +kernel) rfl), _, rfl, rfl, by decide⟩
theorem k_L_82 : LV RL 82 10 M_X10_agree := ⟨(wt 1232 (by decide +kernel) rfl), (wt 1233 (by decide +kernel) rfl), (wt 1234 (by decide +kernel) rfl), _, rfl, rfl, by decide⟩
theorem k_L_83 : LV RL 83 9 M_X9_father := ⟨(wt 786 (by decide +kernel) rfl), (wt 787 (by decide +kernel) rfl), (wt 788 (by decide +kernel) rfl), _, rfl, rfl, by decide⟩
theorem k_L_86 : LV RL 86 10 M_X10_father := ⟨(wt 1240 (by decide +kernel) rfl), (wt 1241 (by decide +kernel) rfl), (wt 1242 (by decide +kernel) rfl), _, rfl, rfl, by decide⟩
theorem k_L_87 : LV RL 87 9 M_X9_table := ⟨(wt 796 (by decide +kernel) rfl), (wt 797 (by decide +kernel) rfl), (wt 798 (by decide +kernel) rfl), _, rfl, rfl, by decide⟩
theorem k_L_91 : LV RL 91 10 M_X10_table := ⟨(wt 1244 (by decide +kernel) rfl), (wt 1245 (by decide +kernel) rfl), (wt 1246 (by decide +kernel) rfl), _, rfl, rfl, by decide⟩
theorem k_L_92 : LV RL 92 9 M_X9_fallen := ⟨(wt 805 (by decide +kernel) rfl), (wt 806 (by decide +kernel) rfl), (wt 807 (by decide +kernel) rfl), _, rfl, rfl, by decide⟩
theorem k_L_95 : LV RL 95 10 M_X10_fallen := ⟨(wt 1248 (by decide +kernel) rfl), (wt 1249 (by decide +kernel) rfl), (wt 1250 (by decide +kernel) rfl), _, rfl, rfl, by decide⟩
theorem k_L_96 : LV RL 96 9 M_X9_count := ⟨(wt 818 (by decide +kernel) rfl), (wt 819 (by decide +kernel) rfl), (wt 820 (by decide +kernel) rfl), _, rfl, rfl, by decide⟩
theorem k_L_99 : LV RL 99 10 M_X10_count := ⟨(wt 1260 (by decide +kernel) rfl), (wt 1261 (by decide +kernel) rfl), (wt 1262 (by decide +kernel) rfl), _, rfl, rfl, by decide⟩
theorem k_X0_28 : LIN RX0 28 M_X8_init := ⟨by decide +kernel, (wt 203 (by decide +kernel) rfl), rfl, rfl⟩
theorem k_X0_29 : LV RX0 29 8 M_X8_alike := ⟨(wt 589 (by decide +kernel) rfl), (wt 590 (by decide +kernel) rfl), (wt 591 (by decide +kernel) rfl), _, rfl, rfl, by decide⟩
theorem k_X0_3 : LO RX0 3 := ⟨(wt 198 (by decide +kernel) rfl), (wt 82 (by decide +kernel) rfl), wt 83 (by decide +kernel) rfl⟩
theorem k_X0_33 : LV RX0 33 8 M_X8_copyLetters := ⟨(wt 601 (by decide +kernel) rfl), (wt 602 (by decide +kernel) rfl), (wt 603 (by decide +kernel) rfl), _, rfl, rfl, by decide⟩
theorem k_X0_37 : LV RX0 37 8 M_X8_isBeginning := ⟨(wt 647 (by decide +kernel) rfl), (wt 594 (by decide +kernel) rfl), (wt 595 (by decide +kernel) rfl), _, rfl, rfl, by decide⟩
theorem k_X1_19 : LV RX1 19 1 M_X1_add := ⟨(wt 761 (by decide +kernel) rfl), (wt 754 (by decide +kernel) rfl), (wt 755 (by decide +kernel) rfl), _, rfl, rfl, by decide⟩
theorem k_X1_3 : LO RX1 3 := ⟨(wt 299 (by decide +kernel) rfl), (wt 82 (by decide +kernel) rfl), wt 83 (by decide +kernel) rfl⟩
theorem k_X10_1 : LO RX10 1 := ⟨(wt 926 (by decide +kernel) rfl), (wt 82 (by decide +kernel) rfl), wt 83 (by decide +kernel) rfl⟩
theorem k_X10_144 : LV RX10 144 10 M_X10_see := ⟨(wt 1091 (by decide +kernel) rfl), (wt 1093 (by decide +kernel) rfl), (wt 27 (by decide +kernel) rfl), _, rfl, rfl, by decide⟩
theorem k_X10_148 : LStat RX10 148 M_X10_kindOf := ⟨(wt 1095 (by decide +kernel) rfl), (wt 1096 (by decide +kernel) rfl)⟩
theorem k_X10_152 : LV RX10 152 10 M_X10_wrong := ⟨(wt 1098 (by decide +kernel) rfl), (wt 1100 (by decide +kernel) rfl), (wt 28 (by decide +kernel) rfl), _, rfl, rfl, by decide⟩
theorem k_X10_159 : LV RX10 159 10 M_X10_slotsRead := ⟨(wt 1087 (by decide +kernel) rfl), (wt 1089 (by decide +kernel) rfl), (wt 26 (by decide +kernel) rfl), _, rfl, rfl, by decide⟩
theorem k_X10_163 : LV RX10 163 10 M_X10_lettersRead := ⟨(wt 1102 (by decide +kernel) rfl), (wt 1104 (by decide +kernel) rfl), (wt 29 (by decide +kernel) rfl), _, rfl, rfl, by decide⟩
theorem k_X10_167 : LV RX10 167 10 M_X10_endingRead := ⟨(wt 1106 (by decide +kernel) rfl), (wt 1108 (by decide +kernel) rfl), (wt 30 (by decide +kernel) rfl), _, rfl, rfl, by decide⟩
theorem k_X10_170 : LStat RX10 170 M_X10_isLetter := ⟨(wt 1125 (by decide +kernel) rfl), (wt 1126 (by decide +kernel) rfl)⟩
theorem k_X10_179 : LStat RX10 179 M_X10_isKept := ⟨(wt 1118 (by decide +kernel) rfl), (wt 1119 (by decide +kernel) rfl)⟩
theorem k_X10_182 : LV RX10 182 10 M_X10_isWord := ⟨(wt 1121 (by decide +kernel) rfl), (wt 1123 (by decide +kernel) rfl), (wt 31 (by decide +kernel) rfl), _, rfl, rfl, by decide⟩
theorem k_X10_185 : LV RX10 185 10 M_X10_entry := ⟨(wt 1128 (by decide +kernel) rfl), (wt 1130 (by decide +kernel) rfl), (wt 32 (by decide +kernel) rfl), _, rfl, rfl, by decide⟩
theorem k_X10_195 : LV RX10 195 10 M_X10_costOf := ⟨(wt 1152 (by decide +kernel) rfl), (wt 1154 (by decide +kernel) rfl), (wt 35 (by decide +kernel) rfl), _, rfl, rfl, by decide⟩
theorem k_X10_199 : LV RX10 199 10 M_X10_slips := ⟨(wt 1156 (by decide +kernel) rfl), (wt 1158 (by decide +kernel) rfl), (wt 36 (by decide +kernel) rfl), _, rfl, rfl, by decide⟩
theorem k_X10_203 : LV RX10 203 10 M_X10_goes := ⟨(wt 1160 (by decide +kernel) rfl), (wt 1162 (by decide +kernel) rfl), (wt 37 (by decide +kernel) rfl), _, rfl, rfl, by decide⟩
theorem k_X10_206 : LV RX10 206 10 M_X10_fill := ⟨(wt 1148 (by decide +kernel) rfl), (wt 1150 (by decide +kernel) rfl), (wt 34 (by decide +kernel) rfl), _, rfl, rfl, by decide⟩
theorem k_X10_210 : LV RX10 210 10 M_X10_isName := ⟨(wt 1144 (by decide +kernel) rfl), (wt 1146 (by decide +kernel) rfl), (wt 33 (by decide +kernel) rfl), _, rfl, rfl, by decide⟩
theorem k_X10_213 : LV RX10 213 10 M_X10_reading := ⟨(wt 1168 (by decide +kernel) rfl), (wt 1170 (by decide +kernel) rfl), (wt 38 (by decide +kernel) rfl), _, rfl, rfl, by decide⟩
theorem k_X10_216 : LV RX10 216 10 M_X10_kindIn := ⟨(wt 1176 (by decide +kernel) rfl), (wt 1178 (by decide +kernel) rfl), (wt 39 (by decide +kernel) rfl), _, rfl, rfl, by decide⟩
theorem k_X10_219 : LV RX10 219 10 M_X10_first := ⟨(wt 1196 (by decide +kernel) rfl), (wt 1198 (by decide +kernel) rfl), (wt 43 (by decide +kernel) rfl), _, rfl, rfl, by decide⟩
theorem k_X10_222 : LV RX10 222 10 M_X10_compare := ⟨(wt 1212 (by decide +kernel) rfl), (wt 1214 (by decide +kernel) rfl), (wt 47 (by decide +kernel) rfl), _, rfl, rfl, by decide⟩
theorem k_X10_225 : LV RX10 225 10 M_X10_firstAll := ⟨(wt 1192 (by decide +kernel) rfl), (wt 1194 (by decide +kernel) rfl), (wt 42 (by decide +kernel) rfl), _, rfl, rfl, by decide⟩
theorem k_X10_228 : LV RX10 228 10 M_X10_pick := ⟨(wt 1200 (by decide +kernel) rfl), (wt 1202 (by decide +kernel) rfl), (wt 44 (by decide +kernel) rfl), _, rfl, rfl, by decide⟩
theorem k_X10_232 : LV RX10 232 10 M_X10_ahead := ⟨(wt 1208 (by decide +kernel) rfl), (wt 1210 (by decide +kernel) rfl), (wt 46 (by decide +kernel) rfl), _, rfl, rfl, by decide⟩
theorem k_X10_235 : LV RX10 235 10 M_X10_fails := ⟨(wt 1184 (by decide +kernel) rfl), (wt 1186 (by decide +kernel) rfl), (wt 40 (by decide +kernel) rfl), _, rfl, rfl, by decide⟩
theorem k_X10_238 : LV RX10 238 10 M_X10_orderAll := ⟨(wt 1188 (by decide +kernel) rfl), (wt 1190 (by decide +kernel) rfl), (wt 41 (by decide +kernel) rfl), _, rfl, rfl, by decide⟩
theorem k_X10_241 : LV RX10 241 10 M_X10_placeOf := ⟨(wt 1204 (by decide +kernel) rfl), (wt 1206 (by decide +kernel) rfl), (wt 45 (by decide +kernel) rfl), _, rfl, rfl, by decide⟩
theorem k_X10_244 : LV RX10 244 10 M_X10_signs := ⟨(wt 1216 (by decide +kernel) rfl), (wt 1218 (by decide +kernel) rfl), (wt 48 (by decide +kernel) rfl), _, rfl, rfl, by decide⟩
theorem k_X10_247 : LV RX10 247 10 M_X10_over := ⟨(wt 1228 (by decide +kernel) rfl), (wt 1230 (by decide +kernel) rfl), (wt 49 (by decide +kernel) rfl), _, rfl, rfl, by decide⟩
theorem k_X10_250 : LV RX10 250 10 M_X10_wordOf := ⟨(wt 1236 (by decide +kernel) rfl), (wt 1238 (by decide +kernel) rfl), (wt 50 (by decide +kernel) rfl), _, rfl, rfl, by decide⟩
theorem k_X10_254 : LV RX10 254 10 M_X10_alike := ⟨(wt 1252 (by decide +kernel) rfl), (wt 1254 (by decide +kernel) rfl), (wt 51 (by decide +kernel) rfl), _, rfl, rfl, by decide⟩
theorem k_X10_257 : LV RX10 257 10 M_X10_overAlike := ⟨(wt 1256 (by decide +kernel) rfl), (wt 1258 (by decide +kernel) rfl), (wt 52 (by decide +kernel) rfl), _, rfl, rfl, by decide⟩
theorem k_X2_3 : LO RX2 3 := ⟨(wt 312 (by decide +kernel) rfl), (wt 82 (by decide +kernel) rfl), wt 83 (by decide +kernel) rfl⟩
theorem k_X2_46 : LIN RX2 46 M_X1_init := ⟨by decide +kernel, (wt 297 (by decide +kernel) rfl), rfl, rfl⟩
theorem k_X2_51 : LIN RX2 51 M_X8_init := ⟨by decide +kernel, (wt 203 (by decide +kernel) rfl), rfl, rfl⟩
theorem k_X2_52 : LV RX2 52 8 M_X8_take := ⟨(wt 621 (by decide +kernel) rfl), (wt 574 (by decide +kernel) rfl), (wt 575 (by decide +kernel) rfl), _, rfl, rfl, by decide⟩
theorem k_X2_56 : LV RX2 56 8 M_X8_compareLetters := ⟨(wt 733 (by decide +kernel) rfl), (wt 734 (by decide +kernel) rfl), (wt 735 (by decide +kernel) rfl), _, rfl, rfl, by decide⟩
theorem k_X2_60 : LV RX2 60 8 M_X8_alike := ⟨(wt 817 (by decide +kernel) rfl), (wt 590 (by decide +kernel) rfl), (wt 591 (by decide +kernel) rfl), _, rfl, rfl, by decide⟩
theorem k_X3_100 : LV RX3 100 3 M_X3_lengthenRows := ⟨(wt 664 (by decide +kernel) rfl), (wt 666 (by decide +kernel) rfl), (wt 15 (by decide +kernel) rfl), _, rfl, rfl, by decide⟩
theorem k_X3_104 : LV RX3 104 3 M_X3_sortByCost := ⟨(wt 677 (by decide +kernel) rfl), (wt 679 (by decide +kernel) rfl), (wt 17 (by decide +kernel) rfl), _, rfl, rfl, by decide⟩
theorem k_X3_109 : LV RX3 109 3 M_X3_swapRows := ⟨(wt 673 (by decide +kernel) rfl), (wt 675 (by decide +kernel) rfl), (wt 16 (by decide +kernel) rfl), _, rfl, rfl, by decide⟩
theorem k_X3_11 : LIN RX3 11 M_X4_init := ⟨by decide +kernel, (wt 128 (by decide +kernel) rfl), rfl, rfl⟩
theorem k_X3_112 : LStat RX3 112 M_X3_costIn := ⟨(wt 681 (by decide +kernel) rfl), (wt 682 (by decide +kernel) rfl)⟩
theorem k_X3_116 : LMx RX3 116 := ⟨(wt 684 (by decide +kernel) rfl), (wt 475 (by decide +kernel) rfl), (wt 65 (by decide +kernel) rfl), wt 476 (by decide +kernel) rfl⟩
theorem k_X3_119 : LV RX3 119 3 M_X3_isRow := ⟨(wt 697 (by decide +kernel) rfl), (wt 699 (by decide +kernel) rfl), (wt 18 (by decide +kernel) rfl), _, rfl, rfl, by decide⟩
theorem k_X3_3 : LO RX3 3 := ⟨(wt 250 (by decide +kernel) rfl), (wt 82 (by decide +kernel) rfl), wt 83 (by decide +kernel) rfl⟩
theorem k_X3_47 : LMn RX3 47 := ⟨(wt 638 (by decide +kernel) rfl), (wt 431 (by decide +kernel) rfl), (wt 65 (by decide +kernel) rfl), wt 432 (by decide +kernel) rfl⟩
theorem k_X3_60 : LV RX3 60 3 M_X3_weighWord := ⟨(wt 639 (by decide +kernel) rfl), (wt 641 (by decide +kernel) rfl), (wt 13 (by decide +kernel) rfl), _, rfl, rfl, by decide⟩
theorem k_X3_73 : LV RX3 73 3 M_X3_leastFrom := ⟨(wt 656 (by decide +kernel) rfl), (wt 658 (by decide +kernel) rfl), (wt 14 (by decide +kernel) rfl), _, rfl, rfl, by decide⟩
theorem k_X3_81 : LV RX3 81 0 M_X0_kindsOf := ⟨(wt 643 (by decide +kernel) rfl), (wt 644 (by decide +kernel) rfl), (wt 645 (by decide +kernel) rfl), _, rfl, rfl, by decide⟩
theorem k_X3_87 : LV RX3 87 4 M_X4_isMade := ⟨(wt 648 (by decide +kernel) rfl), (wt 649 (by decide +kernel) rfl), (wt 650 (by decide +kernel) rfl), _, rfl, rfl, by decide⟩
theorem k_X3_97 : LV RX3 97 4 M_X4_openBehind := ⟨(wt 668 (by decide +kernel) rfl), (wt 669 (by decide +kernel) rfl), (wt 670 (by decide +kernel) rfl), _, rfl, rfl, by decide⟩
theorem k_X4_3 : LO RX4 3 := ⟨(wt 130 (by decide +kernel) rfl), (wt 82 (by decide +kernel) rfl), wt 83 (by decide +kernel) rfl⟩
theorem k_X4_54 : LV RX4 54 4 M_X4_openFrom := ⟨(wt 553 (by decide +kernel) rfl), (wt 555 (by decide +kernel) rfl), (wt 7 (by decide +kernel) rfl), _, rfl, rfl, by decide⟩
theorem k_X4_63 : LV RX4 63 8 M_X8_endsWith := ⟨(wt 652 (by decide +kernel) rfl), (wt 653 (by decide +kernel) rfl), (wt 654 (by decide +kernel) rfl), _, rfl, rfl, by decide⟩
theorem k_X4_67 : LV RX4 67 4 M_X4_isMade := ⟨(wt 794 (by decide +kernel) rfl), (wt 649 (by decide +kernel) rfl), (wt 650 (by decide +kernel) rfl), _, rfl, rfl, by decide⟩
theorem k_X4_71 : LV RX4 71 8 M_X8_isBeginning := ⟨(wt 795 (by decide +kernel) rfl), (wt 594 (by decide +kernel) rfl), (wt 595 (by decide +kernel) rfl), _, rfl, rfl, by decide⟩
theorem k_X5_102 : LSN RX5 102 M_X9_isSmall := ⟨by decide +kernel, (wt 547 (by decide +kernel) rfl)⟩
theorem k_X5_28 : LMn RX5 28 := ⟨(wt 430 (by decide +kernel) rfl), (wt 431 (by decide +kernel) rfl), (wt 65 (by decide +kernel) rfl), wt 432 (by decide +kernel) rfl⟩
theorem k_X5_3 : LO RX5 3 := ⟨(wt 107 (by decide +kernel) rfl), (wt 82 (by decide +kernel) rfl), wt 83 (by decide +kernel) rfl⟩
theorem k_X5_34 : LV RX5 34 5 M_X5_readSlots := ⟨(wt 433 (by decide +kernel) rfl), (wt 435 (by decide +kernel) rfl), (wt 0 (by decide +kernel) rfl), _, rfl, rfl, by decide⟩
theorem k_X5_44 : LV RX5 44 5 M_X5_readLetters := ⟨(wt 538 (by decide +kernel) rfl), (wt 540 (by decide +kernel) rfl), (wt 5 (by decide +kernel) rfl), _, rfl, rfl, by decide⟩
theorem k_X5_57 : LV RX5 57 5 M_X5_readEnding := ⟨(wt 542 (by decide +kernel) rfl), (wt 544 (by decide +kernel) rfl), (wt 6 (by decide +kernel) rfl), _, rfl, rfl, by decide⟩
theorem k_X5_60 : LV RX5 60 5 M_X5_pass := ⟨(wt 530 (by decide +kernel) rfl), (wt 532 (by decide +kernel) rfl), (wt 3 (by decide +kernel) rfl), _, rfl, rfl, by decide⟩
theorem k_X5_64 : LV RX5 64 5 M_X5_stopWith := ⟨(wt 534 (by decide +kernel) rfl), (wt 536 (by decide +kernel) rfl), (wt 4 (by decide +kernel) rfl), _, rfl, rfl, by decide⟩
theorem k_X5_68 : LV RX5 68 4 M_X4_link := ⟨(wt 549 (by decide +kernel) rfl), (wt 550 (by decide +kernel) rfl), (wt 551 (by decide +kernel) rfl), _, rfl, rfl, by decide⟩
theorem k_X5_71 : LV RX5 71 5 M_X5_here := ⟨(wt 441 (by decide +kernel) rfl), (wt 443 (by decide +kernel) rfl), (wt 2 (by decide +kernel) rfl), _, rfl, rfl, by decide⟩
theorem k_X5_86 : LV RX5 86 5 M_X5_kindHere := ⟨(wt 437 (by decide +kernel) rfl), (wt 439 (by decide +kernel) rfl), (wt 1 (by decide +kernel) rfl), _, rfl, rfl, by decide⟩
theorem k_X6_19 : LSN RX6 19 M_X9_isSmall := ⟨by decide +kernel, (wt 547 (by decide +kernel) rfl)⟩
theorem k_X6_23 : LV RX6 23 1 M_X1_add := ⟨(wt 753 (by decide +kernel) rfl), (wt 754 (by decide +kernel) rfl), (wt 755 (by decide +kernel) rfl), _, rfl, rfl, by decide⟩
theorem k_X6_3 : LO RX6 3 := ⟨(wt 286 (by decide +kernel) rfl), (wt 82 (by decide +kernel) rfl), wt 83 (by decide +kernel) rfl⟩
theorem k_X7_3 : LO RX7 3 := ⟨(wt 89 (by decide +kernel) rfl), (wt 82 (by decide +kernel) rfl), wt 83 (by decide +kernel) rfl⟩
theorem k_X8_25 : LV RX8 25 8 M_X8_takeSign := ⟨(wt 577 (by decide +kernel) rfl), (wt 579 (by decide +kernel) rfl), (wt 10 (by decide +kernel) rfl), _, rfl, rfl, by decide⟩
theorem k_X8_29 : LSN RX8 29 M_X9_isSmall := ⟨by decide +kernel, (wt 547 (by decide +kernel) rfl)⟩
theorem k_X8_3 : LO RX8 3 := ⟨(wt 205 (by decide +kernel) rfl), (wt 82 (by decide +kernel) rfl), wt 83 (by decide +kernel) rfl⟩
theorem k_X8_33 : LSN RX8 33 M_X9_isBig := ⟨by decide +kernel, (wt 583 (by decide +kernel) rfl)⟩
theorem k_X8_36 : LV RX8 36 8 M_X8_isBeginning := ⟨(wt 593 (by decide +kernel) rfl), (wt 594 (by decide +kernel) rfl), (wt 595 (by decide +kernel) rfl), _, rfl, rfl, by decide⟩
theorem k_X8_40 : LV RX8 40 8 M_X8_alike := ⟨(wt 785 (by decide +kernel) rfl), (wt 590 (by decide +kernel) rfl), (wt 591 (by decide +kernel) rfl), _, rfl, rfl, by decide⟩
theorem k_X9_101 : LStat RX9 101 M_X9_isLand := ⟨(wt 419 (by decide +kernel) rfl), (wt 420 (by decide +kernel) rfl)⟩
theorem k_X9_105 : LV RX9 105 7 M_X7_holds := ⟨(wt 422 (by decide +kernel) rfl), (wt 423 (by decide +kernel) rfl), (wt 424 (by decide +kernel) rfl), _, rfl, rfl, by decide⟩
theorem k_X9_11 : LIN RX9 11 M_X7_init := ⟨by decide +kernel, (wt 87 (by decide +kernel) rfl), rfl, rfl⟩
theorem k_X9_112 : LV RX9 112 5 M_X5_readInto := ⟨(wt 426 (by decide +kernel) rfl), (wt 427 (by decide +kernel) rfl), (wt 428 (by decide +kernel) rfl), _, rfl, rfl, by decide⟩
theorem k_X9_116 : LV RX9 116 9 M_X9_landChanged := ⟨(wt 557 (by decide +kernel) rfl), (wt 559 (by decide +kernel) rfl), (wt 8 (by decide +kernel) rfl), _, rfl, rfl, by decide⟩
theorem k_X9_128 : LV RX9 128 9 M_X9_isEntry := ⟨(wt 569 (by decide +kernel) rfl), (wt 571 (by decide +kernel) rfl), (wt 9 (by decide +kernel) rfl), _, rfl, rfl, by decide⟩
theorem k_X9_133 : LV RX9 133 0 M_X0_find := ⟨(wt 585 (by decide +kernel) rfl), (wt 586 (by decide +kernel) rfl), (wt 587 (by decide +kernel) rfl), _, rfl, rfl, by decide⟩
theorem k_X9_137 : LV RX9 137 0 M_X0_add := ⟨(wt 597 (by decide +kernel) rfl), (wt 598 (by decide +kernel) rfl), (wt 599 (by decide +kernel) rfl), _, rfl, rfl, by decide⟩
theorem k_X9_140 : LV RX9 140 0 M_X0_remove := ⟨(wt 609 (by decide +kernel) rfl), (wt 610 (by decide +kernel) rfl), (wt 611 (by decide +kernel) rfl), _, rfl, rfl, by decide⟩
theorem k_X9_143 : LV RX9 143 2 M_X2_take := ⟨(wt 617 (by decide +kernel) rfl), (wt 618 (by decide +kernel) rfl), (wt 619 (by decide +kernel) rfl), _, rfl, rfl, by decide⟩
theorem k_X9_156 : LV RX9 156 9 M_X9_isName := ⟨(wt 626 (by decide +kernel) rfl), (wt 628 (by decide +kernel) rfl), (wt 11 (by decide +kernel) rfl), _, rfl, rfl, by decide⟩
theorem k_X9_159 : LV RX9 159 9 M_X9_listReadings := ⟨(wt 630 (by decide +kernel) rfl), (wt 632 (by decide +kernel) rfl), (wt 12 (by decide +kernel) rfl), _, rfl, rfl, by decide⟩
theorem k_X9_162 : LV RX9 162 3 M_X3_rowsUpTo := ⟨(wt 685 (by decide +kernel) rfl), (wt 686 (by decide +kernel) rfl), (wt 687 (by decide +kernel) rfl), _, rfl, rfl, by decide⟩
theorem k_X9_166 : LV RX9 166 3 M_X3_costOfRow := ⟨(wt 693 (by decide +kernel) rfl), (wt 694 (by decide +kernel) rfl), (wt 695 (by decide +kernel) rfl), _, rfl, rfl, by decide⟩
theorem k_X9_169 : LV RX9 169 3 M_X3_kindInRow := ⟨(wt 705 (by decide +kernel) rfl), (wt 706 (by decide +kernel) rfl), (wt 707 (by decide +kernel) rfl), _, rfl, rfl, by decide⟩
theorem k_X9_181 : LV RX9 181 9 M_X9_rank := ⟨(wt 713 (by decide +kernel) rfl), (wt 715 (by decide +kernel) rfl), (wt 19 (by decide +kernel) rfl), _, rfl, rfl, by decide⟩
theorem k_X9_184 : LV RX9 184 9 M_X9_placeInRanking := ⟨(wt 901 (by decide +kernel) rfl), (wt 903 (by decide +kernel) rfl), (wt 25 (by decide +kernel) rfl), _, rfl, rfl, by decide⟩
theorem k_X9_187 : LV RX9 187 9 M_X9_freshName := ⟨(wt 717 (by decide +kernel) rfl), (wt 719 (by decide +kernel) rfl), (wt 20 (by decide +kernel) rfl), _, rfl, rfl, by decide⟩
theorem k_X9_194 : LV RX9 194 9 M_X9_lineOf := ⟨(wt 741 (by decide +kernel) rfl), (wt 743 (by decide +kernel) rfl), (wt 21 (by decide +kernel) rfl), _, rfl, rfl, by decide⟩
theorem k_X9_204 : LV RX9 204 1 M_X1_signAt := ⟨(wt 762 (by decide +kernel) rfl), (wt 763 (by decide +kernel) rfl), (wt 764 (by decide +kernel) rfl), _, rfl, rfl, by decide⟩
theorem k_X9_210 : LStat RX9 210 M_X9_sameFamily := ⟨(wt 770 (by decide +kernel) rfl), (wt 771 (by decide +kernel) rfl)⟩
theorem k_X9_214 : LStat RX9 214 M_X9_fittingGiven := ⟨(wt 778 (by decide +kernel) rfl), (wt 779 (by decide +kernel) rfl)⟩
theorem k_X9_217 : LV RX9 217 2 M_X2_nextOf := ⟨(wt 773 (by decide +kernel) rfl), (wt 774 (by decide +kernel) rfl), (wt 775 (by decide +kernel) rfl), _, rfl, rfl, by decide⟩
theorem k_X9_224 : LV RX9 224 4 M_X4_makes := ⟨(wt 790 (by decide +kernel) rfl), (wt 791 (by decide +kernel) rfl), (wt 792 (by decide +kernel) rfl), _, rfl, rfl, by decide⟩
theorem k_X9_228 : LV RX9 228 6 M_X6_change := ⟨(wt 800 (by decide +kernel) rfl), (wt 801 (by decide +kernel) rfl), (wt 802 (by decide +kernel) rfl), _, rfl, rfl, by decide⟩
theorem k_X9_232 : LV RX9 232 9 M_X9_putLine := ⟨(wt 745 (by decide +kernel) rfl), (wt 747 (by decide +kernel) rfl), (wt 22 (by decide +kernel) rfl), _, rfl, rfl, by decide⟩
theorem k_X9_236 : LV RX9 236 1 M_X1_alike := ⟨(wt 809 (by decide +kernel) rfl), (wt 810 (by decide +kernel) rfl), (wt 811 (by decide +kernel) rfl), _, rfl, rfl, by decide⟩
theorem k_X9_24 : LIN RX9 24 M_X5_init := ⟨by decide +kernel, (wt 105 (by decide +kernel) rfl), rfl, rfl⟩
theorem k_X9_240 : LV RX9 240 2 M_X2_alikeFolded := ⟨(wt 813 (by decide +kernel) rfl), (wt 814 (by decide +kernel) rfl), (wt 815 (by decide +kernel) rfl), _, rfl, rfl, by decide⟩
theorem k_X9_244 : LV RX9 244 9 M_X9_shapeCount := ⟨(wt 822 (by decide +kernel) rfl), (wt 824 (by decide +kernel) rfl), (wt 23 (by decide +kernel) rfl), _, rfl, rfl, by decide⟩
theorem k_X9_248 : LV RX9 248 8 M_X8_take := ⟨(wt 573 (by decide +kernel) rfl), (wt 574 (by decide +kernel) rfl), (wt 575 (by decide +kernel) rfl), _, rfl, rfl, by decide⟩
theorem k_X9_251 : LV RX9 251 3 M_X3_weigh := ⟨(wt 634 (by decide +kernel) rfl), (wt 635 (by decide +kernel) rfl), (wt 636 (by decide +kernel) rfl), _, rfl, rfl, by decide⟩
theorem k_X9_255 : LV RX9 255 3 M_X3_listRows := ⟨(wt 660 (by decide +kernel) rfl), (wt 661 (by decide +kernel) rfl), (wt 662 (by decide +kernel) rfl), _, rfl, rfl, by decide⟩
theorem k_X9_261 : LV RX9 261 3 M_X3_readFirst := ⟨(wt 721 (by decide +kernel) rfl), (wt 722 (by decide +kernel) rfl), (wt 723 (by decide +kernel) rfl), _, rfl, rfl, by decide⟩
theorem k_X9_274 : LV RX9 274 2 M_X2_choose := ⟨(wt 725 (by decide +kernel) rfl), (wt 726 (by decide +kernel) rfl), (wt 727 (by decide +kernel) rfl), _, rfl, rfl, by decide⟩
theorem k_X9_278 : LV RX9 278 2 M_X2_isBefore := ⟨(wt 729 (by decide +kernel) rfl), (wt 730 (by decide +kernel) rfl), (wt 731 (by decide +kernel) rfl), _, rfl, rfl, by decide⟩
theorem k_X9_287 : LV RX9 287 1 M_X1_addWord := ⟨(wt 757 (by decide +kernel) rfl), (wt 758 (by decide +kernel) rfl), (wt 759 (by decide +kernel) rfl), _, rfl, rfl, by decide⟩
theorem k_X9_29 : LIN RX9 29 M_X4_init := ⟨by decide +kernel, (wt 128 (by decide +kernel) rfl), rfl, rfl⟩
theorem k_X9_3 : LO RX9 3 := ⟨(wt 81 (by decide +kernel) rfl), (wt 82 (by decide +kernel) rfl), wt 83 (by decide +kernel) rfl⟩
theorem k_X9_306 : LV RX9 306 6 M_X6_putOver := ⟨(wt 749 (by decide +kernel) rfl), (wt 750 (by decide +kernel) rfl), (wt 751 (by decide +kernel) rfl), _, rfl, rfl, by decide⟩
theorem k_X9_310 : LV RX9 310 8 M_X8_alike := ⟨(wt 777 (by decide +kernel) rfl), (wt 590 (by decide +kernel) rfl), (wt 591 (by decide +kernel) rfl), _, rfl, rfl, by decide⟩
theorem k_X9_313 : LV RX9 313 8 M_X8_fits := ⟨(wt 781 (by decide +kernel) rfl), (wt 782 (by decide +kernel) rfl), (wt 783 (by decide +kernel) rfl), _, rfl, rfl, by decide⟩
theorem k_X9_36 : LI RX9 36 M_X0_init := ⟨(wt 195 (by decide +kernel) rfl), (wt 196 (by decide +kernel) rfl), rfl, rfl⟩
theorem k_X9_43 : LIN RX9 43 M_X8_init := ⟨by decide +kernel, (wt 203 (by decide +kernel) rfl), rfl, rfl⟩
theorem k_X9_60 : LIN RX9 60 M_X3_init := ⟨by decide +kernel, (wt 248 (by decide +kernel) rfl), rfl, rfl⟩
theorem k_X9_78 : LI RX9 78 M_X6_init := ⟨(wt 283 (by decide +kernel) rfl), (wt 284 (by decide +kernel) rfl), rfl, rfl⟩
theorem k_X9_85 : LIN RX9 85 M_X1_init := ⟨by decide +kernel, (wt 297 (by decide +kernel) rfl), rfl, rfl⟩
theorem k_X9_93 : LI RX9 93 M_X2_init := ⟨(wt 309 (by decide +kernel) rfl), (wt 310 (by decide +kernel) rfl), rfl, rfl⟩
theorem k_X9_97 : LV RX9 97 7 M_X7_add := ⟨(wt 411 (by decide +kernel) rfl), (wt 412 (by decide +kernel) rfl), (wt 413 (by decide +kernel) rfl), _, rfl, rfl, by decide⟩
theorem rm_X0_add_X8_copyLetters : RM M_X0_add M_X8_copyLetters := ⟨by decide, by decide⟩
theorem rm_X0_find_X8_alike : RM M_X0_find M_X8_alike := ⟨by decide, by decide⟩
theorem rm_X0_init_X8_init : RM M_X0_init M_X8_init := ⟨by decide, by decide⟩
theorem rm_X0_kindsOf_X8_isBeginning : RM M_X0_kindsOf M_X8_isBeginning := ⟨by decide, by decide⟩
theorem rm_X10_agree_X10_compare : RM M_X10_agree M_X10_compare := ⟨by decide, by decide⟩
theorem rm_X10_agree_X10_first : RM M_X10_agree M_X10_first := ⟨by decide, by decide⟩
theorem rm_X10_agree_X10_isName : RM M_X10_agree M_X10_isName := ⟨by decide, by decide⟩
theorem rm_X10_agree_X10_wordOf : RM M_X10_agree M_X10_wordOf := ⟨by decide, by decide⟩
theorem rm_X10_ahead_X10_compare : RM M_X10_ahead M_X10_compare := ⟨by decide, by decide⟩
theorem rm_X10_alike_X10_compare : RM M_X10_alike M_X10_compare := ⟨by decide, by decide⟩
theorem rm_X10_cost_X10_isName : RM M_X10_cost M_X10_isName := ⟨by decide, by decide⟩
theorem rm_X10_cost_X10_reading : RM M_X10_cost M_X10_reading := ⟨by decide, by decide⟩
theorem rm_X10_costOf_X10_entry : RM M_X10_costOf M_X10_entry := ⟨by decide, by decide⟩
theorem rm_X10_costOf_X10_isKept : RM M_X10_costOf M_X10_isKept := ⟨by decide, by decide⟩
theorem rm_X10_endingRead_X10_see : RM M_X10_endingRead M_X10_see := ⟨by decide, by decide⟩
theorem rm_X10_endingRead_X10_wrong : RM M_X10_endingRead M_X10_wrong := ⟨by decide, by decide⟩
theorem rm_X10_fallen_X10_alike : RM M_X10_fallen M_X10_alike := ⟨by decide, by decide⟩
theorem rm_X10_fallen_X10_overAlike : RM M_X10_fallen M_X10_overAlike := ⟨by decide, by decide⟩
theorem rm_X10_father_X10_first : RM M_X10_father M_X10_first := ⟨by decide, by decide⟩
theorem rm_X10_father_X10_isName : RM M_X10_father M_X10_isName := ⟨by decide, by decide⟩
theorem rm_X10_father_X10_wordOf : RM M_X10_father M_X10_wordOf := ⟨by decide, by decide⟩
theorem rm_X10_fill_X10_costOf : RM M_X10_fill M_X10_costOf := ⟨by decide, by decide⟩
theorem rm_X10_fill_X10_goes : RM M_X10_fill M_X10_goes := ⟨by decide, by decide⟩
theorem rm_X10_fill_X10_slips : RM M_X10_fill M_X10_slips := ⟨by decide, by decide⟩
theorem rm_X10_first_X10_kindIn : RM M_X10_first M_X10_kindIn := ⟨by decide, by decide⟩
theorem rm_X10_first_X10_reading : RM M_X10_first M_X10_reading := ⟨by decide, by decide⟩
theorem rm_X10_firstAll_X10_first : RM M_X10_firstAll M_X10_first := ⟨by decide, by decide⟩
theorem rm_X10_forget_X10_entry : RM M_X10_forget M_X10_entry := ⟨by decide, by decide⟩
theorem rm_X10_forget_X10_isKept : RM M_X10_forget M_X10_isKept := ⟨by decide, by decide⟩
theorem rm_X10_forget_X10_isWord : RM M_X10_forget M_X10_isWord := ⟨by decide, by decide⟩
theorem rm_X10_isWord_X10_isLetter : RM M_X10_isWord M_X10_isLetter := ⟨by decide, by decide⟩
theorem rm_X10_kind_X10_isName : RM M_X10_kind M_X10_isName := ⟨by decide, by decide⟩
theorem rm_X10_kind_X10_kindIn : RM M_X10_kind M_X10_kindIn := ⟨by decide, by decide⟩
theorem rm_X10_kind_X10_reading : RM M_X10_kind M_X10_reading := ⟨by decide, by decide⟩
theorem rm_X10_know_X10_entry : RM M_X10_know M_X10_entry := ⟨by decide, by decide⟩
theorem rm_X10_know_X10_isKept : RM M_X10_know M_X10_isKept := ⟨by decide, by decide⟩
theorem rm_X10_know_X10_isWord : RM M_X10_know M_X10_isWord := ⟨by decide, by decide⟩
theorem rm_X10_lettersRead_X10_kindOf : RM M_X10_lettersRead M_X10_kindOf := ⟨by decide, by decide⟩
theorem rm_X10_lettersRead_X10_see : RM M_X10_lettersRead M_X10_see := ⟨by decide, by decide⟩
theorem rm_X10_lettersRead_X10_wrong : RM M_X10_lettersRead M_X10_wrong := ⟨by decide, by decide⟩
theorem rm_X10_look_X10_fails : RM M_X10_look M_X10_fails := ⟨by decide, by decide⟩
theorem rm_X10_look_X10_first : RM M_X10_look M_X10_first := ⟨by decide, by decide⟩
theorem rm_X10_look_X10_isName : RM M_X10_look M_X10_isName := ⟨by decide, by decide⟩
theorem rm_X10_look_X10_orderAll : RM M_X10_look M_X10_orderAll := ⟨by decide, by decide⟩
theorem rm_X10_look_X10_pick : RM M_X10_look M_X10_pick := ⟨by decide, by decide⟩
theorem rm_X10_look_X10_placeOf : RM M_X10_look M_X10_placeOf := ⟨by decide, by decide⟩
theorem rm_X10_look_X10_signs : RM M_X10_look M_X10_signs := ⟨by decide, by decide⟩
theorem rm_X10_name_X10_isWord : RM M_X10_name M_X10_isWord := ⟨by decide, by decide⟩
theorem rm_X10_order_X10_orderAll : RM M_X10_order M_X10_orderAll := ⟨by decide, by decide⟩
theorem rm_X10_order_X10_placeOf : RM M_X10_order M_X10_placeOf := ⟨by decide, by decide⟩
theorem rm_X10_orderAll_X10_firstAll : RM M_X10_orderAll M_X10_firstAll := ⟨by decide, by decide⟩
theorem rm_X10_orderAll_X10_pick : RM M_X10_orderAll M_X10_pick := ⟨by decide, by decide⟩
theorem rm_X10_overAlike_X10_over : RM M_X10_overAlike M_X10_over := ⟨by decide, by decide⟩
theorem rm_X10_overAlike_X10_signs : RM M_X10_overAlike M_X10_signs := ⟨by decide, by decide⟩
theorem rm_X10_placeOf_X10_ahead : RM M_X10_placeOf M_X10_ahead := ⟨by decide, by decide⟩
theorem rm_X10_reading_X10_fill : RM M_X10_reading M_X10_fill := ⟨by decide, by decide⟩
theorem rm_X10_readings_X10_fill : RM M_X10_readings M_X10_fill := ⟨by decide, by decide⟩
theorem rm_X10_readings_X10_isName : RM M_X10_readings M_X10_isName := ⟨by decide, by decide⟩
theorem rm_X10_shape_X10_endingRead : RM M_X10_shape M_X10_endingRead := ⟨by decide, by decide⟩
theorem rm_X10_shape_X10_lettersRead : RM M_X10_shape M_X10_lettersRead := ⟨by decide, by decide⟩
theorem rm_X10_shape_X10_slotsRead : RM M_X10_shape M_X10_slotsRead := ⟨by decide, by decide⟩
theorem rm_X10_sign_X10_first : RM M_X10_sign M_X10_first := ⟨by decide, by decide⟩
theorem rm_X10_sign_X10_isName : RM M_X10_sign M_X10_isName := ⟨by decide, by decide⟩
theorem rm_X10_sign_X10_over : RM M_X10_sign M_X10_over := ⟨by decide, by decide⟩
theorem rm_X10_sign_X10_pick : RM M_X10_sign M_X10_pick := ⟨by decide, by decide⟩
theorem rm_X10_signs_X10_first : RM M_X10_signs M_X10_first := ⟨by decide, by decide⟩
theorem rm_X10_signs_X10_pick : RM M_X10_signs M_X10_pick := ⟨by decide, by decide⟩
theorem rm_X10_slotsRead_X10_kindOf : RM M_X10_slotsRead M_X10_kindOf := ⟨by decide, by decide⟩
theorem rm_X10_slotsRead_X10_see : RM M_X10_slotsRead M_X10_see := ⟨by decide, by decide⟩
theorem rm_X10_slotsRead_X10_wrong : RM M_X10_slotsRead M_X10_wrong := ⟨by decide, by decide⟩
theorem rm_X1_addWord_X1_add : RM M_X1_addWord M_X1_add := ⟨by decide, by decide⟩
theorem rm_X2_alikeFolded_X8_alike : RM M_X2_alikeFolded M_X8_alike := ⟨by decide, by decide⟩
theorem rm_X2_init_X1_init : RM M_X2_init M_X1_init := ⟨by decide, by decide⟩
theorem rm_X2_init_X8_init : RM M_X2_init M_X8_init := ⟨by decide, by decide⟩
theorem rm_X2_isBefore_X8_compareLetters : RM M_X2_isBefore M_X8_compareLetters := ⟨by decide, by decide⟩
theorem rm_X2_take_X8_take : RM M_X2_take M_X8_take := ⟨by decide, by decide⟩
theorem rm_X3_costOfRow_X3_costIn : RM M_X3_costOfRow M_X3_costIn := ⟨by decide, by decide⟩
theorem rm_X3_costOfRow_X3_isRow : RM M_X3_costOfRow M_X3_isRow := ⟨by decide, by decide⟩
theorem rm_X3_init_X4_init : RM M_X3_init M_X4_init := ⟨by decide, by decide⟩
theorem rm_X3_kindInRow_X3_isRow : RM M_X3_kindInRow M_X3_isRow := ⟨by decide, by decide⟩
theorem rm_X3_lengthenRows_X3_leastFrom : RM M_X3_lengthenRows M_X3_leastFrom := ⟨by decide, by decide⟩
theorem rm_X3_lengthenRows_X3_swapRows : RM M_X3_lengthenRows M_X3_swapRows := ⟨by decide, by decide⟩
theorem rm_X3_lengthenRows_X4_openBehind : RM M_X3_lengthenRows M_X4_openBehind := ⟨by decide, by decide⟩
theorem rm_X3_listRows_X3_leastFrom : RM M_X3_listRows M_X3_leastFrom := ⟨by decide, by decide⟩
theorem rm_X3_listRows_X3_lengthenRows : RM M_X3_listRows M_X3_lengthenRows := ⟨by decide, by decide⟩
theorem rm_X3_listRows_X3_sortByCost : RM M_X3_listRows M_X3_sortByCost := ⟨by decide, by decide⟩
theorem rm_X3_readFirst_X3_leastFrom : RM M_X3_readFirst M_X3_leastFrom := ⟨by decide, by decide⟩
theorem rm_X3_readFirst_X4_openBehind : RM M_X3_readFirst M_X4_openBehind := ⟨by decide, by decide⟩
theorem rm_X3_sortByCost_X3_costIn : RM M_X3_sortByCost M_X3_costIn := ⟨by decide, by decide⟩
theorem rm_X3_sortByCost_X3_swapRows : RM M_X3_sortByCost M_X3_swapRows := ⟨by decide, by decide⟩
theorem rm_X3_weigh_X3_leastFrom : RM M_X3_weigh M_X3_leastFrom := ⟨by decide, by decide⟩
theorem rm_X3_weigh_X3_weighWord : RM M_X3_weigh M_X3_weighWord := ⟨by decide, by decide⟩
theorem rm_X3_weighWord_X0_kindsOf : RM M_X3_weighWord M_X0_kindsOf := ⟨by decide, by decide⟩
theorem rm_X3_weighWord_X4_isMade : RM M_X3_weighWord M_X4_isMade := ⟨by decide, by decide⟩
theorem rm_X4_isMade_X8_endsWith : RM M_X4_isMade M_X8_endsWith := ⟨by decide, by decide⟩
theorem rm_X4_link_X4_openFrom : RM M_X4_link M_X4_openFrom := ⟨by decide, by decide⟩
theorem rm_X4_makes_X4_isMade : RM M_X4_makes M_X4_isMade := ⟨by decide, by decide⟩
theorem rm_X4_makes_X8_isBeginning : RM M_X4_makes M_X8_isBeginning := ⟨by decide, by decide⟩
theorem rm_X5_kindHere_X5_here : RM M_X5_kindHere M_X5_here := ⟨by decide, by decide⟩
theorem rm_X5_pass_X5_here : RM M_X5_pass M_X5_here := ⟨by decide, by decide⟩
theorem rm_X5_pass_X5_stopWith : RM M_X5_pass M_X5_stopWith := ⟨by decide, by decide⟩
theorem rm_X5_readEnding_X5_here : RM M_X5_readEnding M_X5_here := ⟨by decide, by decide⟩
theorem rm_X5_readEnding_X5_stopWith : RM M_X5_readEnding M_X5_stopWith := ⟨by decide, by decide⟩
theorem rm_X5_readEnding_X9_isSmall : RM M_X5_readEnding M_X9_isSmall := ⟨by decide, by decide⟩
theorem rm_X5_readInto_X4_link : RM M_X5_readInto M_X4_link := ⟨by decide, by decide⟩
theorem rm_X5_readInto_X5_pass : RM M_X5_readInto M_X5_pass := ⟨by decide, by decide⟩
theorem rm_X5_readInto_X5_readEnding : RM M_X5_readInto M_X5_readEnding := ⟨by decide, by decide⟩
theorem rm_X5_readInto_X5_readLetters : RM M_X5_readInto M_X5_readLetters := ⟨by decide, by decide⟩
theorem rm_X5_readInto_X5_readSlots : RM M_X5_readInto M_X5_readSlots := ⟨by decide, by decide⟩
theorem rm_X5_readInto_X5_stopWith : RM M_X5_readInto M_X5_stopWith := ⟨by decide, by decide⟩
theorem rm_X5_readLetters_X5_kindHere : RM M_X5_readLetters M_X5_kindHere := ⟨by decide, by decide⟩
theorem rm_X5_readLetters_X5_pass : RM M_X5_readLetters M_X5_pass := ⟨by decide, by decide⟩
theorem rm_X5_readLetters_X5_stopWith : RM M_X5_readLetters M_X5_stopWith := ⟨by decide, by decide⟩
theorem rm_X5_readSlots_X5_here : RM M_X5_readSlots M_X5_here := ⟨by decide, by decide⟩
theorem rm_X5_readSlots_X5_kindHere : RM M_X5_readSlots M_X5_kindHere := ⟨by decide, by decide⟩
theorem rm_X5_readSlots_X5_pass : RM M_X5_readSlots M_X5_pass := ⟨by decide, by decide⟩
theorem rm_X5_readSlots_X5_stopWith : RM M_X5_readSlots M_X5_stopWith := ⟨by decide, by decide⟩
theorem rm_X6_change_X9_isSmall : RM M_X6_change M_X9_isSmall := ⟨by decide, by decide⟩
theorem rm_X6_putOver_X1_add : RM M_X6_putOver M_X1_add := ⟨by decide, by decide⟩
theorem rm_X8_alike_X8_isBeginning : RM M_X8_alike M_X8_isBeginning := ⟨by decide, by decide⟩
theorem rm_X8_fits_X8_alike : RM M_X8_fits M_X8_alike := ⟨by decide, by decide⟩
theorem rm_X8_fits_X8_isBeginning : RM M_X8_fits M_X8_isBeginning := ⟨by decide, by decide⟩
theorem rm_X8_take_X8_takeSign : RM M_X8_take M_X8_takeSign := ⟨by decide, by decide⟩
theorem rm_X8_takeSign_X9_isBig : RM M_X8_takeSign M_X9_isBig := ⟨by decide, by decide⟩
theorem rm_X8_takeSign_X9_isSmall : RM M_X8_takeSign M_X9_isSmall := ⟨by decide, by decide⟩
theorem rm_X9_agree_X9_fittingGiven : RM M_X9_agree M_X9_fittingGiven := ⟨by decide, by decide⟩
theorem rm_X9_agree_X9_freshName : RM M_X9_agree M_X9_freshName := ⟨by decide, by decide⟩
theorem rm_X9_agree_X9_isName : RM M_X9_agree M_X9_isName := ⟨by decide, by decide⟩
theorem rm_X9_agree_X9_sameFamily : RM M_X9_agree M_X9_sameFamily := ⟨by decide, by decide⟩
theorem rm_X9_cost_X3_costOfRow : RM M_X9_cost M_X3_costOfRow := ⟨by decide, by decide⟩
theorem rm_X9_cost_X9_isName : RM M_X9_cost M_X9_isName := ⟨by decide, by decide⟩
theorem rm_X9_cost_X9_listReadings : RM M_X9_cost M_X9_listReadings := ⟨by decide, by decide⟩
theorem rm_X9_count_X9_shapeCount : RM M_X9_count M_X9_shapeCount := ⟨by decide, by decide⟩
theorem rm_X9_fallen_X1_alike : RM M_X9_fallen M_X1_alike := ⟨by decide, by decide⟩
theorem rm_X9_fallen_X2_alikeFolded : RM M_X9_fallen M_X2_alikeFolded := ⟨by decide, by decide⟩
theorem rm_X9_fallen_X9_putLine : RM M_X9_fallen M_X9_putLine := ⟨by decide, by decide⟩
theorem rm_X9_father_X2_nextOf : RM M_X9_father M_X2_nextOf := ⟨by decide, by decide⟩
theorem rm_X9_father_X4_makes : RM M_X9_father M_X4_makes := ⟨by decide, by decide⟩
theorem rm_X9_father_X9_freshName : RM M_X9_father M_X9_freshName := ⟨by decide, by decide⟩
theorem rm_X9_father_X9_isName : RM M_X9_father M_X9_isName := ⟨by decide, by decide⟩
theorem rm_X9_feed_X7_add : RM M_X9_feed M_X7_add := ⟨by decide, by decide⟩
theorem rm_X9_fittingGiven_X2_nextOf : RM M_X9_fittingGiven M_X2_nextOf := ⟨by decide, by decide⟩
theorem rm_X9_fittingGiven_X8_fits : RM M_X9_fittingGiven M_X8_fits := ⟨by decide, by decide⟩
theorem rm_X9_forget_X0_find : RM M_X9_forget M_X0_find := ⟨by decide, by decide⟩
theorem rm_X9_forget_X0_remove : RM M_X9_forget M_X0_remove := ⟨by decide, by decide⟩
theorem rm_X9_forget_X9_isEntry : RM M_X9_forget M_X9_isEntry := ⟨by decide, by decide⟩
theorem rm_X9_forget_X9_landChanged : RM M_X9_forget M_X9_landChanged := ⟨by decide, by decide⟩
theorem rm_X9_freshName_X2_choose : RM M_X9_freshName M_X2_choose := ⟨by decide, by decide⟩
theorem rm_X9_freshName_X3_readFirst : RM M_X9_freshName M_X3_readFirst := ⟨by decide, by decide⟩
theorem rm_X9_freshName_X3_weigh : RM M_X9_freshName M_X3_weigh := ⟨by decide, by decide⟩
theorem rm_X9_init_X0_init : RM M_X9_init M_X0_init := ⟨by decide, by decide⟩
theorem rm_X9_init_X1_init : RM M_X9_init M_X1_init := ⟨by decide, by decide⟩
theorem rm_X9_init_X2_init : RM M_X9_init M_X2_init := ⟨by decide, by decide⟩
theorem rm_X9_init_X3_init : RM M_X9_init M_X3_init := ⟨by decide, by decide⟩
theorem rm_X9_init_X4_init : RM M_X9_init M_X4_init := ⟨by decide, by decide⟩
theorem rm_X9_init_X5_init : RM M_X9_init M_X5_init := ⟨by decide, by decide⟩
theorem rm_X9_init_X6_init : RM M_X9_init M_X6_init := ⟨by decide, by decide⟩
theorem rm_X9_init_X7_init : RM M_X9_init M_X7_init := ⟨by decide, by decide⟩
theorem rm_X9_init_X8_init : RM M_X9_init M_X8_init := ⟨by decide, by decide⟩
theorem rm_X9_isEntry_X7_holds : RM M_X9_isEntry M_X7_holds := ⟨by decide, by decide⟩
theorem rm_X9_isEntry_X8_take : RM M_X9_isEntry M_X8_take := ⟨by decide, by decide⟩
theorem rm_X9_isEntry_X9_isLand : RM M_X9_isEntry M_X9_isLand := ⟨by decide, by decide⟩
theorem rm_X9_kind_X3_kindInRow : RM M_X9_kind M_X3_kindInRow := ⟨by decide, by decide⟩
theorem rm_X9_kind_X9_isName : RM M_X9_kind M_X9_isName := ⟨by decide, by decide⟩
theorem rm_X9_kind_X9_listReadings : RM M_X9_kind M_X9_listReadings := ⟨by decide, by decide⟩
theorem rm_X9_know_X0_add : RM M_X9_know M_X0_add := ⟨by decide, by decide⟩
theorem rm_X9_know_X0_find : RM M_X9_know M_X0_find := ⟨by decide, by decide⟩
theorem rm_X9_know_X9_isEntry : RM M_X9_know M_X9_isEntry := ⟨by decide, by decide⟩
theorem rm_X9_know_X9_landChanged : RM M_X9_know M_X9_landChanged := ⟨by decide, by decide⟩
theorem rm_X9_lineOf_X1_addWord : RM M_X9_lineOf M_X1_addWord := ⟨by decide, by decide⟩
theorem rm_X9_lineOf_X2_choose : RM M_X9_lineOf M_X2_choose := ⟨by decide, by decide⟩
theorem rm_X9_lineOf_X9_freshName : RM M_X9_lineOf M_X9_freshName := ⟨by decide, by decide⟩
theorem rm_X9_lineOf_X9_putLine : RM M_X9_lineOf M_X9_putLine := ⟨by decide, by decide⟩
theorem rm_X9_listReadings_X3_listRows : RM M_X9_listReadings M_X3_listRows := ⟨by decide, by decide⟩
theorem rm_X9_listReadings_X3_weigh : RM M_X9_listReadings M_X3_weigh := ⟨by decide, by decide⟩
theorem rm_X9_look_X9_freshName : RM M_X9_look M_X9_freshName := ⟨by decide, by decide⟩
theorem rm_X9_look_X9_isName : RM M_X9_look M_X9_isName := ⟨by decide, by decide⟩
theorem rm_X9_look_X9_lineOf : RM M_X9_look M_X9_lineOf := ⟨by decide, by decide⟩
theorem rm_X9_look_X9_placeInRanking : RM M_X9_look M_X9_placeInRanking := ⟨by decide, by decide⟩
theorem rm_X9_look_X9_rank : RM M_X9_look M_X9_rank := ⟨by decide, by decide⟩
theorem rm_X9_name_X2_take : RM M_X9_name M_X2_take := ⟨by decide, by decide⟩
theorem rm_X9_name_X7_holds : RM M_X9_name M_X7_holds := ⟨by decide, by decide⟩
theorem rm_X9_name_X9_isLand : RM M_X9_name M_X9_isLand := ⟨by decide, by decide⟩
theorem rm_X9_order_X9_isName : RM M_X9_order M_X9_isName := ⟨by decide, by decide⟩
theorem rm_X9_order_X9_rank : RM M_X9_order M_X9_rank := ⟨by decide, by decide⟩
theorem rm_X9_putLine_X6_putOver : RM M_X9_putLine M_X6_putOver := ⟨by decide, by decide⟩
theorem rm_X9_rank_X2_isBefore : RM M_X9_rank M_X2_isBefore := ⟨by decide, by decide⟩
theorem rm_X9_rank_X9_freshName : RM M_X9_rank M_X9_freshName := ⟨by decide, by decide⟩
theorem rm_X9_readings_X3_rowsUpTo : RM M_X9_readings M_X3_rowsUpTo := ⟨by decide, by decide⟩
theorem rm_X9_readings_X9_isName : RM M_X9_readings M_X9_isName := ⟨by decide, by decide⟩
theorem rm_X9_readings_X9_listReadings : RM M_X9_readings M_X9_listReadings := ⟨by decide, by decide⟩
theorem rm_X9_sameFamily_X2_nextOf : RM M_X9_sameFamily M_X2_nextOf := ⟨by decide, by decide⟩
theorem rm_X9_sameFamily_X8_alike : RM M_X9_sameFamily M_X8_alike := ⟨by decide, by decide⟩
theorem rm_X9_shape_X5_readInto : RM M_X9_shape M_X5_readInto := ⟨by decide, by decide⟩
theorem rm_X9_shape_X7_holds : RM M_X9_shape M_X7_holds := ⟨by decide, by decide⟩
theorem rm_X9_shape_X9_isLand : RM M_X9_shape M_X9_isLand := ⟨by decide, by decide⟩
theorem rm_X9_shape_X9_landChanged : RM M_X9_shape M_X9_landChanged := ⟨by decide, by decide⟩
theorem rm_X9_sign_X1_signAt : RM M_X9_sign M_X1_signAt := ⟨by decide, by decide⟩
theorem rm_X9_sign_X9_isName : RM M_X9_sign M_X9_isName := ⟨by decide, by decide⟩
theorem rm_X9_sign_X9_lineOf : RM M_X9_sign M_X9_lineOf := ⟨by decide, by decide⟩
theorem rm_X9_table_X6_change : RM M_X9_table M_X6_change := ⟨by decide, by decide⟩
theorem rm_X9_table_X7_holds : RM M_X9_table M_X7_holds := ⟨by decide, by decide⟩

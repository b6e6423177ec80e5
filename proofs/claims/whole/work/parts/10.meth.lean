abbrev mX0_init : MI := (yX0_init, cX0_init, 1, none)
abbrev mX0_start : MI := (yX0_start, cX0_start, 3, none)
abbrev mX0_placeOf : MI := (yX0_placeOf, cX0_placeOf, 7, some .int)
abbrev mX0_numberOf : MI := (yX0_numberOf, cX0_numberOf, 3, some .int)
abbrev mX0_add : MI := (yX0_add, cX0_add, 4, some .int)
abbrev mX0_collectAll : MI := (yX0_collectAll, cX0_collectAll, 3, some .boolean)
abbrev mX0_expand : MI := (yX0_expand, cX0_expand, 8, some .boolean)
abbrev mX0_countStepInto : MI := (yX0_countStepInto, cX0_countStepInto, 4, some .boolean)
abbrev mX0_longestFromFirst : MI := (yX0_longestFromFirst, cX0_longestFromFirst, 4, some .int)
abbrev mX0_walkFrom : MI := (yX0_walkFrom, cX0_walkFrom, 9, none)
abbrev mX0_walkInto : MI := (yX0_walkInto, cX0_walkInto, 3, none)
abbrev mX0_searchLoop : MI := (yX0_searchLoop, cX0_searchLoop, 7, some .int)
abbrev mX0_expandForLoop : MI := (yX0_expandForLoop, cX0_expandForLoop, 10, some .int)
abbrev mX0_addStep : MI := (yX0_addStep, cX0_addStep, 7, some .boolean)
abbrev mX0_storeLoop : MI := (yX0_storeLoop, cX0_storeLoop, 8, some .int)
abbrev mX1_init : MI := (yX1_init, cX1_init, 1, none)
abbrev mX1_put : MI := (yX1_put, cX1_put, 4, some .boolean)
abbrev mX1_consume : MI := (yX1_consume, cX1_consume, 2, some .int)
abbrev mX1_find : MI := (yX1_find, cX1_find, 4, some .int)
abbrev mX1_read : MI := (yX1_read, cX1_read, 9, some .long)
abbrev mX2_init : MI := (yX2_init, cX2_init, 1, none)
abbrev mX2_prepare : MI := (yX2_prepare, cX2_prepare, 6, some .boolean)
abbrev mX2_findWeightless : MI := (yX2_findWeightless, cX2_findWeightless, 3, some .boolean)
abbrev mX2_findFor : MI := (yX2_findFor, cX2_findFor, 2, some .boolean)
abbrev mX2_mayFit : MI := (yX2_mayFit, cX2_mayFit, 3, some .boolean)
abbrev mX2_mayBeAdmissible : MI := (yX2_mayBeAdmissible, cX2_mayBeAdmissible, 3, some .boolean)
abbrev mX2_mayOrient : MI := (yX2_mayOrient, cX2_mayOrient, 10, some .boolean)
abbrev mX3_init : MI := (yX3_init, cX3_init, 1, none)
abbrev mX3_prepareWeights : MI := (yX3_prepareWeights, cX3_prepareWeights, 5, none)
abbrev mX3_prepareCertificate : MI := (yX3_prepareCertificate, cX3_prepareCertificate, 5, none)
abbrev mX3_boundRows : MI := (yX3_boundRows, cX3_boundRows, 4, none)
abbrev mX3_mayFit : MI := (yX3_mayFit, cX3_mayFit, 4, some .boolean)
abbrev mX3_hasNonZero : MI := (yX3_hasNonZero, cX3_hasNonZero, 2, some .boolean)
abbrev mX4_init : MI := (yX4_init, cX4_init, 1, none)
abbrev mX5_init : MI := (yX5_init, cX5_init, 1, none)
abbrev mX5_begin : MI := (yX5_begin, cX5_begin, 3, none)
abbrev mX5_copyFrom : MI := (yX5_copyFrom, cX5_copyFrom, 3, none)
abbrev mX5_hasLetter : MI := (yX5_hasLetter, cX5_hasLetter, 2, some .boolean)
abbrev mX5_hasRule : MI := (yX5_hasRule, cX5_hasRule, 2, some .boolean)
abbrev mX5_putRule : MI := (yX5_putRule, cX5_putRule, 7, some .int)
abbrev mX5_dropRule : MI := (yX5_dropRule, cX5_dropRule, 3, none)
abbrev mX5_weightOf : MI := (yX5_weightOf, cX5_weightOf, 5, some .int)
abbrev mX5_compareWords : MI := (yX5_compareWords, cX5_compareWords, 10, some .int)
abbrev mX5_admissible : MI := (yX5_admissible, cX5_admissible, 4, some .boolean)
abbrev mX5_isAboveOthers : MI := (yX5_isAboveOthers, cX5_isAboveOthers, 3, some .boolean)
abbrev mX5_stepped : MI := (yX5_stepped, cX5_stepped, 5, some .long)
abbrev mX5_firstStep : MI := (yX5_firstStep, cX5_firstStep, 7, some .long)
abbrev mX5_marginOf : MI := (yX5_marginOf, cX5_marginOf, 4, some .float)
abbrev mX5_widenMargin : MI := (yX5_widenMargin, cX5_widenMargin, 4, none)
abbrev mX6_init : MI := (yX6_init, cX6_init, 1, none)
abbrev mX6_findFirst : MI := (yX6_findFirst, cX6_findFirst, 5, some .boolean)
abbrev mX6_advance : MI := (yX6_advance, cX6_advance, 4, some .int)
abbrev mX7_init : MI := (yX7_init, cX7_init, 1, none)
abbrev mX7_isFree : MI := (yX7_isFree, cX7_isFree, 1, some .boolean)
abbrev mX7_fill : MI := (yX7_fill, cX7_fill, 4, none)
abbrev mX7_hasIndex : MI := (yX7_hasIndex, cX7_hasIndex, 2, some .boolean)
abbrev mX7_hasRange : MI := (yX7_hasRange, cX7_hasRange, 3, some .boolean)
abbrev mX7_put : MI := (yX7_put, cX7_put, 4, none)
abbrev mX7_divide : MI := (yX7_divide, cX7_divide, 3, none)
abbrev mX7_asLong : MI := (yX7_asLong, cX7_asLong, 2, some .long)
abbrev mX7_copyFrom : MI := (yX7_copyFrom, cX7_copyFrom, 5, none)
abbrev mX8_sizeOf : MI := (yX8_sizeOf, cX8_sizeOf, 2, some .int)
abbrev mX8_letterAt : MI := (yX8_letterAt, cX8_letterAt, 3, some .int)
abbrev mX8_letterFrom : MI := (yX8_letterFrom, cX8_letterFrom, 5, some .int)
abbrev mX8_make : MI := (yX8_make, cX8_make, 3, some .long)
abbrev mX8_lettersOf : MI := (yX8_lettersOf, cX8_lettersOf, 2, some .long)
abbrev mX8_lowest : MI := (yX8_lowest, cX8_lowest, 3, some .long)
abbrev mX8_extended : MI := (yX8_extended, cX8_extended, 3, some .long)
abbrev mX8_lettersIn : MI := (yX8_lettersIn, cX8_lettersIn, 4, some .int)
abbrev mX8_occursAt : MI := (yX8_occursAt, cX8_occursAt, 6, some .boolean)
abbrev mX8_occurs : MI := (yX8_occurs, cX8_occurs, 5, some .boolean)
abbrev mX8_replaced : MI := (yX8_replaced, cX8_replaced, 15, some .long)
abbrev mX9_init : MI := (yX9_init, cX9_init, 2, none)
abbrev mX9_reset : MI := (yX9_reset, cX9_reset, 3, some .int)
abbrev mX9_letters : MI := (yX9_letters, cX9_letters, 1, some .int)
abbrev mX9_append : MI := (yX9_append, cX9_append, 3, some .int)
abbrev mX9_clearInput : MI := (yX9_clearInput, cX9_clearInput, 1, some .int)
abbrev mX9_addRule : MI := (yX9_addRule, cX9_addRule, 7, some .int)
abbrev mX9_removeRule : MI := (yX9_removeRule, cX9_removeRule, 2, some .int)
abbrev mX9_ruleCount : MI := (yX9_ruleCount, cX9_ruleCount, 1, some .int)
abbrev mX9_ruleLetter : MI := (yX9_ruleLetter, cX9_ruleLetter, 4, some .int)
abbrev mX9_balance : MI := (yX9_balance, cX9_balance, 3, some .int)
abbrev mX9_setWeight : MI := (yX9_setWeight, cX9_setWeight, 4, some .int)
abbrev mX9_weight : MI := (yX9_weight, cX9_weight, 2, some .int)
abbrev mX9_setLevel : MI := (yX9_setLevel, cX9_setLevel, 4, some .int)
abbrev mX9_level : MI := (yX9_level, cX9_level, 2, some .int)
abbrev mX9_setStatus : MI := (yX9_setStatus, cX9_setStatus, 3, some .int)
abbrev mX9_isAdmissible : MI := (yX9_isAdmissible, cX9_isAdmissible, 1, some .int)
abbrev mX9_compareSides : MI := (yX9_compareSides, cX9_compareSides, 2, some .int)
abbrev mX9_compareWithInput : MI := (yX9_compareWithInput, cX9_compareWithInput, 3, some .int)
abbrev mX9_firstUnoriented : MI := (yX9_firstUnoriented, cX9_firstUnoriented, 2, some .int)
abbrev mX9_findWeights : MI := (yX9_findWeights, cX9_findWeights, 4, some .int)
abbrev mX9_findCertificate : MI := (yX9_findCertificate, cX9_findCertificate, 3, some .int)
abbrev mX9_findLevels : MI := (yX9_findLevels, cX9_findLevels, 3, some .int)
abbrev mX9_findOrder : MI := (yX9_findOrder, cX9_findOrder, 5, some .int)
abbrev mX9_reachableLetters : MI := (yX9_reachableLetters, cX9_reachableLetters, 5, some .int)
abbrev mX9_setString : MI := (yX9_setString, cX9_setString, 3, some .int)
abbrev mX9_stringLength : MI := (yX9_stringLength, cX9_stringLength, 1, some .int)
abbrev mX9_stringLetter : MI := (yX9_stringLetter, cX9_stringLetter, 2, some .int)
abbrev mX9_stringWeight : MI := (yX9_stringWeight, cX9_stringWeight, 1, some .int)
abbrev mX9_rewrite : MI := (yX9_rewrite, cX9_rewrite, 5, some .int)
abbrev mX9_normalize : MI := (yX9_normalize, cX9_normalize, 5, some .int)
abbrev mX9_longestDerivation : MI := (yX9_longestDerivation, cX9_longestDerivation, 1, some .int)
abbrev mX9_findLoop : MI := (yX9_findLoop, cX9_findLoop, 2, some .int)
abbrev mX9_loopStep : MI := (yX9_loopStep, cX9_loopStep, 3, some .int)
abbrev mX9_improve : MI := (yX9_improve, cX9_improve, 4, some .int)
abbrev mX9_setApproximateWeight : MI := (yX9_setApproximateWeight, cX9_setApproximateWeight, 5, some .int)
abbrev mX9_approximateWeight : MI := (yX9_approximateWeight, cX9_approximateWeight, 2, some .long)
abbrev mX9_margin : MI := (yX9_margin, cX9_margin, 2, some .long)
abbrev mX9_roundWeights : MI := (yX9_roundWeights, cX9_roundWeights, 4, some .int)
abbrev mX9_allocate : MI := (yX9_allocate, cX9_allocate, 4, some .int)
abbrev mX9_release : MI := (yX9_release, cX9_release, 3, some .int)
abbrev mX9_putElement : MI := (yX9_putElement, cX9_putElement, 5, some .int)
abbrev mX9_divideElement : MI := (yX9_divideElement, cX9_divideElement, 4, some .int)
abbrev mX9_element : MI := (yX9_element, cX9_element, 3, some .long)
abbrev mX9_copyElements : MI := (yX9_copyElements, cX9_copyElements, 6, some .int)
abbrev mX9_checkCertificate : MI := (yX9_checkCertificate, cX9_checkCertificate, 2, some .int)
abbrev mX9_snapshot : MI := (yX9_snapshot, cX9_snapshot, 1, some .int)
abbrev mX9_restore : MI := (yX9_restore, cX9_restore, 1, some .int)
abbrev mX9_letterOrNone : MI := (yX9_letterOrNone, cX9_letterOrNone, 3, some .int)
abbrev mX9_takeString : MI := (yX9_takeString, cX9_takeString, 2, some .long)
abbrev mX9_takeFoundLevels : MI := (yX9_takeFoundLevels, cX9_takeFoundLevels, 1, none)
abbrev mX9_writeTriedWeights : MI := (yX9_writeTriedWeights, cX9_writeTriedWeights, 4, none)
abbrev mX9_takeFoundOrder : MI := (yX9_takeFoundOrder, cX9_takeFoundOrder, 2, none)
abbrev mX9_millionths : MI := (yX9_millionths, cX9_millionths, 1, some .long)
abbrev mX9_roundedWeight : MI := (yX9_roundedWeight, cX9_roundedWeight, 6, some .int)
abbrev mX9_isSlot : MI := (yX9_isSlot, cX9_isSlot, 1, some .boolean)
abbrev mX9_isCertificate : MI := (yX9_isCertificate, cX9_isCertificate, 7, some .boolean)
abbrev mX10_init : MI := (yX10_init, cX10_init, 2, none)
abbrev mX10_in : MI := (yX10_in, cX10_in, 6, some .boolean)
abbrev mX10_isLetter : MI := (yX10_isLetter, cX10_isLetter, 2, some .boolean)
abbrev mX10_isRule : MI := (yX10_isRule, cX10_isRule, 2, some .boolean)
abbrev mX10_reset : MI := (yX10_reset, cX10_reset, 4, some .int)
abbrev mX10_letters : MI := (yX10_letters, cX10_letters, 1, some .int)
abbrev mX10_append : MI := (yX10_append, cX10_append, 4, some .int)
abbrev mX10_clearInput : MI := (yX10_clearInput, cX10_clearInput, 2, some .int)
abbrev mX10_lettersFrom : MI := (yX10_lettersFrom, cX10_lettersFrom, 3, some .int)
abbrev mX10_addRule : MI := (yX10_addRule, cX10_addRule, 5, some .int)
abbrev mX10_removeRule : MI := (yX10_removeRule, cX10_removeRule, 4, some .int)
abbrev mX10_ruleCount : MI := (yX10_ruleCount, cX10_ruleCount, 1, some .int)
abbrev mX10_ruleLetter : MI := (yX10_ruleLetter, cX10_ruleLetter, 4, some .int)
abbrev mX10_occurs : MI := (yX10_occurs, cX10_occurs, 6, some .int)
abbrev mX10_balanceOf : MI := (yX10_balanceOf, cX10_balanceOf, 3, some .int)
abbrev mX10_balance : MI := (yX10_balance, cX10_balance, 3, some .int)
abbrev mX10_setWeight : MI := (yX10_setWeight, cX10_setWeight, 4, some .int)
abbrev mX10_weight : MI := (yX10_weight, cX10_weight, 2, some .int)
abbrev mX10_setLevel : MI := (yX10_setLevel, cX10_setLevel, 4, some .int)
abbrev mX10_level : MI := (yX10_level, cX10_level, 2, some .int)
abbrev mX10_setStatus : MI := (yX10_setStatus, cX10_setStatus, 3, some .int)
abbrev mX10_isGood : MI := (yX10_isGood, cX10_isGood, 5, some .boolean)
abbrev mX10_isAdmissible : MI := (yX10_isAdmissible, cX10_isAdmissible, 1, some .int)
abbrev mX10_compared : MI := (yX10_compared, cX10_compared, 7, some .int)
abbrev mX10_sidesOf : MI := (yX10_sidesOf, cX10_sidesOf, 3, some .int)
abbrev mX10_compareSides : MI := (yX10_compareSides, cX10_compareSides, 2, some .int)
abbrev mX10_taken : MI := (yX10_taken, cX10_taken, 3, some .int)
abbrev mX10_compareWithInput : MI := (yX10_compareWithInput, cX10_compareWithInput, 3, some .int)
abbrev mX10_firstUnoriented : MI := (yX10_firstUnoriented, cX10_firstUnoriented, 2, some .int)
abbrev mX10_next : MI := (yX10_next, cX10_next, 4, some .boolean)
abbrev mX10_begin : MI := (yX10_begin, cX10_begin, 2, none)
abbrev mX10_less : MI := (yX10_less, cX10_less, 4, some .int)
abbrev mX10_findWeights : MI := (yX10_findWeights, cX10_findWeights, 6, some .int)
abbrev mX10_findCertificate : MI := (yX10_findCertificate, cX10_findCertificate, 6, some .int)
abbrev mX10_levels : MI := (yX10_levels, cX10_levels, 3, some .boolean)
abbrev mX10_findLevels : MI := (yX10_findLevels, cX10_findLevels, 3, some .int)
abbrev mX10_findOrder : MI := (yX10_findOrder, cX10_findOrder, 6, some .int)
abbrev mX10_reachableLetters : MI := (yX10_reachableLetters, cX10_reachableLetters, 8, some .int)
abbrev mX10_setString : MI := (yX10_setString, cX10_setString, 3, some .int)
abbrev mX10_stringLength : MI := (yX10_stringLength, cX10_stringLength, 1, some .int)
abbrev mX10_stringLetter : MI := (yX10_stringLetter, cX10_stringLetter, 2, some .int)
abbrev mX10_stringWeight : MI := (yX10_stringWeight, cX10_stringWeight, 3, some .int)
abbrev mX10_sizeOf : MI := (yX10_sizeOf, cX10_sizeOf, 5, some .int)
abbrev mX10_letterOf : MI := (yX10_letterOf, cX10_letterOf, 4, some .int)
abbrev mX10_with : MI := (yX10_with, cX10_with, 3, some .long)
abbrev mX10_stands : MI := (yX10_stands, cX10_stands, 9, some .boolean)
abbrev mX10_stepped : MI := (yX10_stepped, cX10_stepped, 11, some .long)
abbrev mX10_current : MI := (yX10_current, cX10_current, 4, some .long)
abbrev mX10_becomes : MI := (yX10_becomes, cX10_becomes, 4, none)
abbrev mX10_rewrite : MI := (yX10_rewrite, cX10_rewrite, 5, some .int)
abbrev mX10_steps : MI := (yX10_steps, cX10_steps, 7, some .boolean)
abbrev mX10_normalize : MI := (yX10_normalize, cX10_normalize, 3, some .int)
abbrev mX10_placeOf : MI := (yX10_placeOf, cX10_placeOf, 4, some .int)
abbrev mX10_longestDerivation : MI := (yX10_longestDerivation, cX10_longestDerivation, 8, some .int)
abbrev mX10_deepestOf : MI := (yX10_deepestOf, cX10_deepestOf, 5, some .int)
abbrev mX10_contains : MI := (yX10_contains, cX10_contains, 7, some .boolean)
abbrev mX10_findLoop : MI := (yX10_findLoop, cX10_findLoop, 9, some .int)
abbrev mX10_loops : MI := (yX10_loops, cX10_loops, 6, some .int)
abbrev mX10_loopStep : MI := (yX10_loopStep, cX10_loopStep, 3, some .int)
abbrev mX10_marginOf : MI := (yX10_marginOf, cX10_marginOf, 4, some .float)
abbrev mX10_improve : MI := (yX10_improve, cX10_improve, 6, some .int)
abbrev mX10_setApproximateWeight : MI := (yX10_setApproximateWeight, cX10_setApproximateWeight, 6, some .int)
abbrev mX10_approximateWeight : MI := (yX10_approximateWeight, cX10_approximateWeight, 2, some .long)
abbrev mX10_margin : MI := (yX10_margin, cX10_margin, 2, some .long)
abbrev mX10_roundWeights : MI := (yX10_roundWeights, cX10_roundWeights, 6, some .int)
abbrev mX10_isSlot : MI := (yX10_isSlot, cX10_isSlot, 1, some .boolean)
abbrev mX10_allocate : MI := (yX10_allocate, cX10_allocate, 5, some .int)
abbrev mX10_release : MI := (yX10_release, cX10_release, 3, some .int)
abbrev mX10_isPlace : MI := (yX10_isPlace, cX10_isPlace, 3, some .boolean)
abbrev mX10_putElement : MI := (yX10_putElement, cX10_putElement, 6, some .int)
abbrev mX10_divideElement : MI := (yX10_divideElement, cX10_divideElement, 5, some .int)
abbrev mX10_element : MI := (yX10_element, cX10_element, 4, some .long)
abbrev mX10_copyElements : MI := (yX10_copyElements, cX10_copyElements, 11, some .int)
abbrev mX10_checkCertificate : MI := (yX10_checkCertificate, cX10_checkCertificate, 8, some .int)
abbrev mX10_snapshot : MI := (yX10_snapshot, cX10_snapshot, 2, some .int)
abbrev mX10_restore : MI := (yX10_restore, cX10_restore, 2, some .int)
abbrev mJ9_rint_294c1 : MI := (yJ9_rint_294c1, cJ9_rint_294c1, 2, some .double)
abbrev mJ9_abs_294c1 : MI := (yJ9_abs_294c1, cJ9_abs_294c1, 2, some .double)
abbrev mJ9_max_7cf53 : MI := (yJ9_max_7cf53, cJ9_max_7cf53, 2, some .int)
abbrev mJ9_min_7cf53 : MI := (yJ9_min_7cf53, cJ9_min_7cf53, 2, some .int)
abbrev mJ9_copySign_eb370 : MI := (yJ9_copySign_eb370, cJ9_copySign_eb370, 4, some .double)
abbrev mJxfc994_rint_294c1 : MI := (yJxfc994_rint_294c1, cJxfc994_rint_294c1, 6, some .double)
abbrev mJ7_fill_53178 : MI := (yJ7_fill_53178, cJ7_fill_53178, 4, none)
theorem incX0 : ∀ w ∈ u_ws RX0 TX0 10, w ∈ lw_w := by
  intro w hw
  have h1 : ∀ w ∈ u_ws RX0 TX0 10, w ∈ lw_tbl := by decide +kernel
  have h2 : (u_ws RX0 TX0 10).all goodWord = true := by decide +kernel
  exact List.mem_filter.mpr ⟨List.mem_append_right _ (h1 w hw), List.all_eq_true.mp h2 w hw⟩
theorem incX1 : ∀ w ∈ u_ws RX1 TX1 2, w ∈ lw_w := by
  intro w hw
  have h1 : ∀ w ∈ u_ws RX1 TX1 2, w ∈ lw_tbl := by decide +kernel
  have h2 : (u_ws RX1 TX1 2).all goodWord = true := by decide +kernel
  exact List.mem_filter.mpr ⟨List.mem_append_right _ (h1 w hw), List.all_eq_true.mp h2 w hw⟩
theorem incX2 : ∀ w ∈ u_ws RX2 TX2 7, w ∈ lw_w := by
  intro w hw
  have h1 : ∀ w ∈ u_ws RX2 TX2 7, w ∈ lw_tbl := by decide +kernel
  have h2 : (u_ws RX2 TX2 7).all goodWord = true := by decide +kernel
  exact List.mem_filter.mpr ⟨List.mem_append_right _ (h1 w hw), List.all_eq_true.mp h2 w hw⟩
theorem incX3 : ∀ w ∈ u_ws RX3 TX3 8, w ∈ lw_w := by
  intro w hw
  have h1 : ∀ w ∈ u_ws RX3 TX3 8, w ∈ lw_tbl := by decide +kernel
  have h2 : (u_ws RX3 TX3 8).all goodWord = true := by decide +kernel
  exact List.mem_filter.mpr ⟨List.mem_append_right _ (h1 w hw), List.all_eq_true.mp h2 w hw⟩
theorem incX4 : ∀ w ∈ u_ws RX4 TX4 3, w ∈ lw_w := by
  intro w hw
  have h1 : ∀ w ∈ u_ws RX4 TX4 3, w ∈ lw_tbl := by decide +kernel
  have h2 : (u_ws RX4 TX4 3).all goodWord = true := by decide +kernel
  exact List.mem_filter.mpr ⟨List.mem_append_right _ (h1 w hw), List.all_eq_true.mp h2 w hw⟩
theorem incX5 : ∀ w ∈ u_ws RX5 TX5 10, w ∈ lw_w := by
  intro w hw
  have h1 : ∀ w ∈ u_ws RX5 TX5 10, w ∈ lw_tbl := by decide +kernel
  have h2 : (u_ws RX5 TX5 10).all goodWord = true := by decide +kernel
  exact List.mem_filter.mpr ⟨List.mem_append_right _ (h1 w hw), List.all_eq_true.mp h2 w hw⟩
theorem incX7 : ∀ w ∈ u_ws RX7 TX7 5, w ∈ lw_w := by
  intro w hw
  have h1 : ∀ w ∈ u_ws RX7 TX7 5, w ∈ lw_tbl := by decide +kernel
  have h2 : (u_ws RX7 TX7 5).all goodWord = true := by decide +kernel
  exact List.mem_filter.mpr ⟨List.mem_append_right _ (h1 w hw), List.all_eq_true.mp h2 w hw⟩
theorem incX9 : ∀ w ∈ u_ws RX9 TX9 10, w ∈ lw_w := by
  intro w hw
  have h1 : ∀ w ∈ u_ws RX9 TX9 10, w ∈ lw_tbl := by decide +kernel
  have h2 : (u_ws RX9 TX9 10).all goodWord = true := by decide +kernel
  exact List.mem_filter.mpr ⟨List.mem_append_right _ (h1 w hw), List.all_eq_true.mp h2 w hw⟩
theorem incX10 : ∀ w ∈ u_ws RX10 TX10 44, w ∈ lw_w := by
  intro w hw
  have h1 : ∀ w ∈ u_ws RX10 TX10 44, w ∈ lw_tbl := by decide +kernel
  have h2 : (u_ws RX10 TX10 44).all goodWord = true := by decide +kernel
  exact List.mem_filter.mpr ⟨List.mem_append_right _ (h1 w hw), List.all_eq_true.mp h2 w hw⟩
theorem fX9_14 : fd9 RX9 14 7 0 2 := ⟨RX9, TX9, 10, "RewritingTermination", rfl, by decide, (w9 294 (by decide +kernel) rfl), incX9, fun _ _ _ _ h => h, rfl, rfl⟩
theorem fX9_18 : fd9 RX9 18 7 1 2 := ⟨RX9, TX9, 10, "RewritingTermination", rfl, by decide, (w9 295 (by decide +kernel) rfl), incX9, fun _ _ _ _ h => h, rfl, rfl⟩
theorem fX9_21 : fd9 RX9 21 7 2 0 := ⟨RX9, TX9, 10, "RewritingTermination", rfl, by decide, (w9 296 (by decide +kernel) rfl), incX9, fun _ _ _ _ h => h, rfl, rfl⟩
theorem fX9_28 : fd9 RX9 28 7 3 2 := ⟨RX9, TX9, 10, "RewritingTermination", rfl, by decide, (w9 297 (by decide +kernel) rfl), incX9, fun _ _ _ _ h => h, rfl, rfl⟩
theorem fX9_35 : fd9 RX9 35 7 4 2 := ⟨RX9, TX9, 10, "RewritingTermination", rfl, by decide, (w9 298 (by decide +kernel) rfl), incX9, fun _ _ _ _ h => h, rfl, rfl⟩
theorem fX9_42 : fd9 RX9 42 7 5 2 := ⟨RX9, TX9, 10, "RewritingTermination", rfl, by decide, (w9 299 (by decide +kernel) rfl), incX9, fun _ _ _ _ h => h, rfl, rfl⟩
theorem fX9_49 : fd9 RX9 49 7 6 2 := ⟨RX9, TX9, 10, "RewritingTermination", rfl, by decide, (w9 300 (by decide +kernel) rfl), incX9, fun _ _ _ _ h => h, rfl, rfl⟩
theorem fX9_56 : fd9 RX9 56 7 7 2 := ⟨RX9, TX9, 10, "RewritingTermination", rfl, by decide, (w9 301 (by decide +kernel) rfl), incX9, fun _ _ _ _ h => h, rfl, rfl⟩
theorem fX9_60 : fd9 RX9 60 7 8 2 := ⟨RX9, TX9, 10, "RewritingTermination", rfl, by decide, (w9 302 (by decide +kernel) rfl), incX9, fun _ _ _ _ h => h, rfl, rfl⟩
theorem fX9_66 : fd9 RX9 66 7 9 2 := ⟨RX9, TX9, 10, "RewritingTermination", rfl, by decide, (w9 303 (by decide +kernel) rfl), incX9, fun _ _ _ _ h => h, rfl, rfl⟩
theorem fX9_71 : fd9 RX9 71 5 0 0 := ⟨RX5, TX5, 10, "RewritingTermination$Rewriting", rfl, by decide, (w9 75 (by decide +kernel) rfl), incX5, fun _ _ _ _ h => h, rfl, rfl⟩
theorem fX9_79 : fd9 RX9 79 4 0 0 := ⟨RX4, TX4, 3, "RewritingTermination$Loop", rfl, by decide, (w9 148 (by decide +kernel) rfl), incX4, fun _ _ _ _ h => h, rfl, rfl⟩
theorem fX9_86 : fd9 RX9 86 1 0 0 := ⟨RX1, TX1, 2, "RewritingTermination$Input", rfl, by decide, (w9 133 (by decide +kernel) rfl), incX1, fun _ _ _ _ h => h, rfl, rfl⟩
theorem fX9_93 : fd9 RX9 93 5 1 0 := ⟨RX5, TX5, 10, "RewritingTermination$Rewriting", rfl, by decide, (w9 79 (by decide +kernel) rfl), incX5, fun _ _ _ _ h => h, rfl, rfl⟩
theorem fX9_117 : fd9 RX9 117 5 2 2 := ⟨RX5, TX5, 10, "RewritingTermination$Rewriting", rfl, by decide, (w9 83 (by decide +kernel) rfl), incX5, fun _ _ _ _ h => h, rfl, rfl⟩
theorem fX9_121 : fd9 RX9 121 5 3 2 := ⟨RX5, TX5, 10, "RewritingTermination$Rewriting", rfl, by decide, (w9 86 (by decide +kernel) rfl), incX5, fun _ _ _ _ h => h, rfl, rfl⟩
theorem fX9_131 : fd9 RX9 131 5 4 2 := ⟨RX5, TX5, 10, "RewritingTermination$Rewriting", rfl, by decide, (w9 90 (by decide +kernel) rfl), incX5, fun _ _ _ _ h => h, rfl, rfl⟩
theorem fX9_135 : fd9 RX9 135 5 5 2 := ⟨RX5, TX5, 10, "RewritingTermination$Rewriting", rfl, by decide, (w9 92 (by decide +kernel) rfl), incX5, fun _ _ _ _ h => h, rfl, rfl⟩
theorem fX9_138 : fd9 RX9 138 5 6 2 := ⟨RX5, TX5, 10, "RewritingTermination$Rewriting", rfl, by decide, (w9 94 (by decide +kernel) rfl), incX5, fun _ _ _ _ h => h, rfl, rfl⟩
theorem fX9_141 : fd9 RX9 141 5 7 0 := ⟨RX5, TX5, 10, "RewritingTermination$Rewriting", rfl, by decide, (w9 96 (by decide +kernel) rfl), incX5, fun _ _ _ _ h => h, rfl, rfl⟩
theorem fX9_155 : fd9 RX9 155 5 9 1 := ⟨RX5, TX5, 10, "RewritingTermination$Rewriting", rfl, by decide, (w9 101 (by decide +kernel) rfl), incX5, fun _ _ _ _ h => h, rfl, rfl⟩
theorem fX9_166 : fd9 RX9 166 3 0 2 := ⟨RX3, TX3, 8, "RewritingTermination$LinearSearch", rfl, by decide, (w9 222 (by decide +kernel) rfl), incX3, fun U args h x hx => u_same (h _ (w9 219 (by decide +kernel) rfl)) x hx, rfl, rfl⟩
theorem fX9_220 : fd9 RX9 220 4 1 2 := ⟨RX4, TX4, 3, "RewritingTermination$Loop", rfl, by decide, (w9 152 (by decide +kernel) rfl), incX4, fun _ _ _ _ h => h, rfl, rfl⟩
theorem fX9_222 : fd9 RX9 222 4 2 2 := ⟨RX4, TX4, 3, "RewritingTermination$Loop", rfl, by decide, (w9 155 (by decide +kernel) rfl), incX4, fun _ _ _ _ h => h, rfl, rfl⟩
theorem fX9_234 : fd9 RX9 234 5 8 2 := ⟨RX5, TX5, 10, "RewritingTermination$Rewriting", rfl, by decide, (w9 98 (by decide +kernel) rfl), incX5, fun _ _ _ _ h => h, rfl, rfl⟩
theorem fX9_264 : fd9 RX9 264 6 0 0 := ⟨RX7, TX7, 5, "RewritingTermination$Slot", rfl, by decide, (w9 275 (by decide +kernel) rfl), incX7, fun _ _ _ _ h => h, rfl, rfl⟩
theorem fX9_281 : fd9 RX9 281 6 1 0 := ⟨RX7, TX7, 5, "RewritingTermination$Slot", rfl, by decide, (w9 277 (by decide +kernel) rfl), incX7, fun _ _ _ _ h => h, rfl, rfl⟩
theorem fX9_284 : fd9 RX9 284 6 2 2 := ⟨RX7, TX7, 5, "RewritingTermination$Slot", rfl, by decide, (w9 279 (by decide +kernel) rfl), incX7, fun _ _ _ _ h => h, rfl, rfl⟩
theorem fX9_297 : fd9 RX9 297 2 0 2 := ⟨RX2, TX2, 7, "RewritingTermination$LevelSearch", rfl, by decide, (w9 223 (by decide +kernel) rfl), incX2, fun U args h x hx => u_same (h _ (w9 221 (by decide +kernel) rfl)) x hx, rfl, rfl⟩
theorem kX9_124 : lkS RX9 124 mX9_letterOrNone 2 := ⟨(w9 413 (by decide +kernel) rfl), (w9 414 (by decide +kernel) rfl), (w9 35 (by decide +kernel) rfl), (w9 415 (by decide +kernel) rfl), ⟨by decide +kernel, by decide +kernel⟩, by decide +kernel, by decide⟩
theorem kX9_188 : lkS RX9 188 mX8_lettersIn 1 := ⟨(w9 586 (by decide +kernel) rfl), (w9 587 (by decide +kernel) rfl), (w9 45 (by decide +kernel) rfl), (w9 588 (by decide +kernel) rfl), ⟨by decide +kernel, by decide +kernel⟩, by decide +kernel, by decide⟩
theorem kX9_194 : lkS RX9 194 mX8_sizeOf 1 := ⟨(w9 416 (by decide +kernel) rfl), (w9 367 (by decide +kernel) rfl), (w9 45 (by decide +kernel) rfl), (w9 368 (by decide +kernel) rfl), ⟨by decide +kernel, by decide +kernel⟩, by decide +kernel, by decide⟩
theorem kX9_238 : lkS RX9 238 mX9_millionths 1 := ⟨(w9 734 (by decide +kernel) rfl), (w9 735 (by decide +kernel) rfl), (w9 35 (by decide +kernel) rfl), (w9 736 (by decide +kernel) rfl), ⟨by decide +kernel, by decide +kernel⟩, by decide +kernel, by decide⟩
theorem kX9_244 : lkS RX9 244 mX9_roundedWeight 1 := ⟨(w9 747 (by decide +kernel) rfl), (w9 748 (by decide +kernel) rfl), (w9 35 (by decide +kernel) rfl), (w9 749 (by decide +kernel) rfl), ⟨by decide +kernel, by decide +kernel⟩, by decide +kernel, by decide⟩
theorem kX9_248 : lkS RX9 248 mX9_isSlot 1 := ⟨(w9 756 (by decide +kernel) rfl), (w9 757 (by decide +kernel) rfl), (w9 35 (by decide +kernel) rfl), (w9 758 (by decide +kernel) rfl), ⟨by decide +kernel, by decide +kernel⟩, by decide +kernel, by decide⟩
theorem kX9_294 : lkS RX9 294 mX8_letterAt 2 := ⟨(w9 417 (by decide +kernel) rfl), (w9 388 (by decide +kernel) rfl), (w9 45 (by decide +kernel) rfl), (w9 389 (by decide +kernel) rfl), ⟨by decide +kernel, by decide +kernel⟩, by decide +kernel, by decide⟩
theorem kX9_75 : lkV RX9 75 5 mX5_begin 1 := ⟨(w9 329 (by decide +kernel) rfl), (w9 69 (by decide +kernel) rfl), (w9 70 (by decide +kernel) rfl), (w9 36 (by decide +kernel) rfl), (w9 71 (by decide +kernel) rfl), ⟨by decide +kernel, by decide +kernel⟩, by decide +kernel, by decide, TX5, 10, rfl⟩
theorem kX9_82 : lkV RX9 82 1 mX1_put 2 := ⟨(w9 338 (by decide +kernel) rfl), (w9 339 (by decide +kernel) rfl), (w9 340 (by decide +kernel) rfl), (w9 37 (by decide +kernel) rfl), (w9 341 (by decide +kernel) rfl), ⟨by decide +kernel, by decide +kernel⟩, by decide +kernel, by decide, TX1, 2, rfl⟩
theorem kX9_89 : lkV RX9 89 1 mX1_consume 0 := ⟨(w9 346 (by decide +kernel) rfl), (w9 347 (by decide +kernel) rfl), (w9 348 (by decide +kernel) rfl), (w9 37 (by decide +kernel) rfl), (w9 349 (by decide +kernel) rfl), ⟨by decide +kernel, by decide +kernel⟩, by decide +kernel, by decide, TX1, 2, rfl⟩
theorem kX9_96 : lkV RX9 96 1 mX1_find 2 := ⟨(w9 354 (by decide +kernel) rfl), (w9 355 (by decide +kernel) rfl), (w9 356 (by decide +kernel) rfl), (w9 37 (by decide +kernel) rfl), (w9 357 (by decide +kernel) rfl), ⟨by decide +kernel, by decide +kernel⟩, by decide +kernel, by decide, TX1, 2, rfl⟩
theorem kX9_100 : lkV RX9 100 1 mX1_read 4 := ⟨(w9 358 (by decide +kernel) rfl), (w9 359 (by decide +kernel) rfl), (w9 360 (by decide +kernel) rfl), (w9 37 (by decide +kernel) rfl), (w9 361 (by decide +kernel) rfl), ⟨by decide +kernel, by decide +kernel⟩, by decide +kernel, by decide, TX1, 2, rfl⟩
theorem kX9_106 : lkV RX9 106 5 mX5_putRule 2 := ⟨(w9 379 (by decide +kernel) rfl), (w9 380 (by decide +kernel) rfl), (w9 381 (by decide +kernel) rfl), (w9 36 (by decide +kernel) rfl), (w9 382 (by decide +kernel) rfl), ⟨by decide +kernel, by decide +kernel⟩, by decide +kernel, by decide, TX5, 10, rfl⟩
theorem kX9_110 : lkV RX9 110 5 mX5_hasRule 1 := ⟨(w9 394 (by decide +kernel) rfl), (w9 395 (by decide +kernel) rfl), (w9 396 (by decide +kernel) rfl), (w9 36 (by decide +kernel) rfl), (w9 397 (by decide +kernel) rfl), ⟨by decide +kernel, by decide +kernel⟩, by decide +kernel, by decide, TX5, 10, rfl⟩
theorem kX9_114 : lkV RX9 114 5 mX5_dropRule 1 := ⟨(w9 398 (by decide +kernel) rfl), (w9 399 (by decide +kernel) rfl), (w9 400 (by decide +kernel) rfl), (w9 36 (by decide +kernel) rfl), (w9 401 (by decide +kernel) rfl), ⟨by decide +kernel, by decide +kernel⟩, by decide +kernel, by decide, TX5, 10, rfl⟩
theorem kX9_128 : lkV RX9 128 5 mX5_hasLetter 1 := ⟨(w9 422 (by decide +kernel) rfl), (w9 423 (by decide +kernel) rfl), (w9 424 (by decide +kernel) rfl), (w9 36 (by decide +kernel) rfl), (w9 425 (by decide +kernel) rfl), ⟨by decide +kernel, by decide +kernel⟩, by decide +kernel, by decide, TX5, 10, rfl⟩
theorem kX9_144 : lkV RX9 144 5 mX5_admissible 0 := ⟨(w9 450 (by decide +kernel) rfl), (w9 451 (by decide +kernel) rfl), (w9 452 (by decide +kernel) rfl), (w9 36 (by decide +kernel) rfl), (w9 453 (by decide +kernel) rfl), ⟨by decide +kernel, by decide +kernel⟩, by decide +kernel, by decide, TX5, 10, rfl⟩
theorem kX9_148 : lkV RX9 148 5 mX5_compareWords 2 := ⟨(w9 462 (by decide +kernel) rfl), (w9 463 (by decide +kernel) rfl), (w9 464 (by decide +kernel) rfl), (w9 36 (by decide +kernel) rfl), (w9 465 (by decide +kernel) rfl), ⟨by decide +kernel, by decide +kernel⟩, by decide +kernel, by decide, TX5, 10, rfl⟩
theorem kX9_151 : lkV RX9 151 7 mX9_takeString 0 := ⟨(w9 480 (by decide +kernel) rfl), (w9 482 (by decide +kernel) rfl), (w9 0 (by decide +kernel) rfl), (w9 35 (by decide +kernel) rfl), (w9 483 (by decide +kernel) rfl), ⟨by decide +kernel, by decide +kernel⟩, by decide +kernel, by decide, TX9, 10, rfl⟩
theorem kX9_159 : lkV RX9 159 3 mX3_prepareWeights 2 := ⟨(w9 492 (by decide +kernel) rfl), (w9 493 (by decide +kernel) rfl), (w9 494 (by decide +kernel) rfl), (w9 41 (by decide +kernel) rfl), (w9 495 (by decide +kernel) rfl), ⟨by decide +kernel, by decide +kernel⟩, by decide +kernel, by decide, TX3, 8, rfl⟩
theorem kX9_163 : lkU RX9 163 3 RX6 ⟨RX3, "findFirst", "(II)Z"⟩ mX6_findFirst 2 := ⟨RX3, TX3, 8, rfl, (w9 503 (by decide +kernel) rfl), (w9 504 (by decide +kernel) rfl), (w9 506 (by decide +kernel) rfl), (w9 507 (by decide +kernel) rfl), (w9 40 (by decide +kernel) rfl), (w9 508 (by decide +kernel) rfl), ⟨by decide +kernel, by decide +kernel⟩, by decide +kernel, by decide, Or.inl rfl⟩
theorem kX9_169 : lkV RX9 169 3 mX3_prepareCertificate 2 := ⟨(w9 542 (by decide +kernel) rfl), (w9 543 (by decide +kernel) rfl), (w9 544 (by decide +kernel) rfl), (w9 41 (by decide +kernel) rfl), (w9 545 (by decide +kernel) rfl), ⟨by decide +kernel, by decide +kernel⟩, by decide +kernel, by decide, TX3, 8, rfl⟩
theorem kX9_172 : lkV RX9 172 2 mX2_prepare 2 := ⟨(w9 550 (by decide +kernel) rfl), (w9 551 (by decide +kernel) rfl), (w9 552 (by decide +kernel) rfl), (w9 42 (by decide +kernel) rfl), (w9 553 (by decide +kernel) rfl), ⟨by decide +kernel, by decide +kernel⟩, by decide +kernel, by decide, TX2, 7, rfl⟩
theorem kX9_176 : lkV RX9 176 2 mX2_findFor 1 := ⟨(w9 558 (by decide +kernel) rfl), (w9 559 (by decide +kernel) rfl), (w9 560 (by decide +kernel) rfl), (w9 42 (by decide +kernel) rfl), (w9 561 (by decide +kernel) rfl), ⟨by decide +kernel, by decide +kernel⟩, by decide +kernel, by decide, TX2, 7, rfl⟩
theorem kX9_179 : lkV RX9 179 7 mX9_takeFoundLevels 0 := ⟨(w9 565 (by decide +kernel) rfl), (w9 567 (by decide +kernel) rfl), (w9 6 (by decide +kernel) rfl), (w9 35 (by decide +kernel) rfl), (w9 568 (by decide +kernel) rfl), ⟨by decide +kernel, by decide +kernel⟩, by decide +kernel, by decide, TX9, 10, rfl⟩
theorem kX9_182 : lkV RX9 182 7 mX9_writeTriedWeights 1 := ⟨(w9 574 (by decide +kernel) rfl), (w9 576 (by decide +kernel) rfl), (w9 7 (by decide +kernel) rfl), (w9 35 (by decide +kernel) rfl), (w9 577 (by decide +kernel) rfl), ⟨by decide +kernel, by decide +kernel⟩, by decide +kernel, by decide, TX9, 10, rfl⟩
theorem kX9_185 : lkV RX9 185 7 mX9_takeFoundOrder 1 := ⟨(w9 578 (by decide +kernel) rfl), (w9 580 (by decide +kernel) rfl), (w9 8 (by decide +kernel) rfl), (w9 35 (by decide +kernel) rfl), (w9 581 (by decide +kernel) rfl), ⟨by decide +kernel, by decide +kernel⟩, by decide +kernel, by decide, TX9, 10, rfl⟩
theorem kX9_197 : lkV RX9 197 5 mX5_weightOf 1 := ⟨(w9 606 (by decide +kernel) rfl), (w9 467 (by decide +kernel) rfl), (w9 468 (by decide +kernel) rfl), (w9 36 (by decide +kernel) rfl), (w9 469 (by decide +kernel) rfl), ⟨by decide +kernel, by decide +kernel⟩, by decide +kernel, by decide, TX5, 10, rfl⟩
theorem kX9_200 : lkV RX9 200 5 mX5_stepped 3 := ⟨(w9 611 (by decide +kernel) rfl), (w9 612 (by decide +kernel) rfl), (w9 613 (by decide +kernel) rfl), (w9 36 (by decide +kernel) rfl), (w9 614 (by decide +kernel) rfl), ⟨by decide +kernel, by decide +kernel⟩, by decide +kernel, by decide, TX5, 10, rfl⟩
theorem kX9_204 : lkV RX9 204 5 mX5_firstStep 1 := ⟨(w9 627 (by decide +kernel) rfl), (w9 628 (by decide +kernel) rfl), (w9 629 (by decide +kernel) rfl), (w9 36 (by decide +kernel) rfl), (w9 630 (by decide +kernel) rfl), ⟨by decide +kernel, by decide +kernel⟩, by decide +kernel, by decide, TX5, 10, rfl⟩
theorem kX9_208 : lkV RX9 208 0 mX0_collectAll 1 := ⟨(w9 636 (by decide +kernel) rfl), (w9 637 (by decide +kernel) rfl), (w9 638 (by decide +kernel) rfl), (w9 39 (by decide +kernel) rfl), (w9 639 (by decide +kernel) rfl), ⟨by decide +kernel, by decide +kernel⟩, by decide +kernel, by decide, TX0, 10, rfl⟩
theorem kX9_212 : lkV RX9 212 0 mX0_longestFromFirst 1 := ⟨(w9 669 (by decide +kernel) rfl), (w9 670 (by decide +kernel) rfl), (w9 671 (by decide +kernel) rfl), (w9 39 (by decide +kernel) rfl), (w9 672 (by decide +kernel) rfl), ⟨by decide +kernel, by decide +kernel⟩, by decide +kernel, by decide, TX0, 10, rfl⟩
theorem kX9_216 : lkV RX9 216 0 mX0_searchLoop 3 := ⟨(w9 686 (by decide +kernel) rfl), (w9 687 (by decide +kernel) rfl), (w9 688 (by decide +kernel) rfl), (w9 39 (by decide +kernel) rfl), (w9 689 (by decide +kernel) rfl), ⟨by decide +kernel, by decide +kernel⟩, by decide +kernel, by decide, TX0, 10, rfl⟩
theorem kX9_225 : lkV RX9 225 5 mX5_marginOf 1 := ⟨(w9 715 (by decide +kernel) rfl), (w9 716 (by decide +kernel) rfl), (w9 717 (by decide +kernel) rfl), (w9 36 (by decide +kernel) rfl), (w9 718 (by decide +kernel) rfl), ⟨by decide +kernel, by decide +kernel⟩, by decide +kernel, by decide, TX5, 10, rfl⟩
theorem kX9_230 : lkV RX9 230 5 mX5_widenMargin 1 := ⟨(w9 720 (by decide +kernel) rfl), (w9 721 (by decide +kernel) rfl), (w9 722 (by decide +kernel) rfl), (w9 36 (by decide +kernel) rfl), (w9 723 (by decide +kernel) rfl), ⟨by decide +kernel, by decide +kernel⟩, by decide +kernel, by decide, TX5, 10, rfl⟩
theorem kX9_251 : lkV RX9 251 6 mX7_fill 2 := ⟨(w9 759 (by decide +kernel) rfl), (w9 760 (by decide +kernel) rfl), (w9 761 (by decide +kernel) rfl), (w9 43 (by decide +kernel) rfl), (w9 762 (by decide +kernel) rfl), ⟨by decide +kernel, by decide +kernel⟩, by decide +kernel, by decide, TX7, 5, rfl⟩
theorem kX9_255 : lkV RX9 255 6 mX7_isFree 0 := ⟨(w9 767 (by decide +kernel) rfl), (w9 768 (by decide +kernel) rfl), (w9 769 (by decide +kernel) rfl), (w9 43 (by decide +kernel) rfl), (w9 770 (by decide +kernel) rfl), ⟨by decide +kernel, by decide +kernel⟩, by decide +kernel, by decide, TX7, 5, rfl⟩
theorem kX9_258 : lkV RX9 258 6 mX7_hasIndex 1 := ⟨(w9 775 (by decide +kernel) rfl), (w9 776 (by decide +kernel) rfl), (w9 777 (by decide +kernel) rfl), (w9 43 (by decide +kernel) rfl), (w9 778 (by decide +kernel) rfl), ⟨by decide +kernel, by decide +kernel⟩, by decide +kernel, by decide, TX7, 5, rfl⟩
theorem kX9_261 : lkV RX9 261 6 mX7_put 2 := ⟨(w9 779 (by decide +kernel) rfl), (w9 780 (by decide +kernel) rfl), (w9 781 (by decide +kernel) rfl), (w9 43 (by decide +kernel) rfl), (w9 782 (by decide +kernel) rfl), ⟨by decide +kernel, by decide +kernel⟩, by decide +kernel, by decide, TX7, 5, rfl⟩
theorem kX9_267 : lkV RX9 267 6 mX7_divide 2 := ⟨(w9 787 (by decide +kernel) rfl), (w9 788 (by decide +kernel) rfl), (w9 789 (by decide +kernel) rfl), (w9 43 (by decide +kernel) rfl), (w9 790 (by decide +kernel) rfl), ⟨by decide +kernel, by decide +kernel⟩, by decide +kernel, by decide, TX7, 5, rfl⟩
theorem kX9_270 : lkV RX9 270 6 mX7_asLong 1 := ⟨(w9 795 (by decide +kernel) rfl), (w9 796 (by decide +kernel) rfl), (w9 797 (by decide +kernel) rfl), (w9 43 (by decide +kernel) rfl), (w9 798 (by decide +kernel) rfl), ⟨by decide +kernel, by decide +kernel⟩, by decide +kernel, by decide, TX7, 5, rfl⟩
theorem kX9_274 : lkV RX9 274 6 mX7_hasRange 2 := ⟨(w9 803 (by decide +kernel) rfl), (w9 804 (by decide +kernel) rfl), (w9 805 (by decide +kernel) rfl), (w9 43 (by decide +kernel) rfl), (w9 806 (by decide +kernel) rfl), ⟨by decide +kernel, by decide +kernel⟩, by decide +kernel, by decide, TX7, 5, rfl⟩
theorem kX9_277 : lkV RX9 277 6 mX7_copyFrom 4 := ⟨(w9 807 (by decide +kernel) rfl), (w9 808 (by decide +kernel) rfl), (w9 809 (by decide +kernel) rfl), (w9 43 (by decide +kernel) rfl), (w9 810 (by decide +kernel) rfl), ⟨by decide +kernel, by decide +kernel⟩, by decide +kernel, by decide, TX7, 5, rfl⟩
theorem kX9_287 : lkV RX9 287 7 mX9_isCertificate 1 := ⟨(w9 816 (by decide +kernel) rfl), (w9 818 (by decide +kernel) rfl), (w9 9 (by decide +kernel) rfl), (w9 35 (by decide +kernel) rfl), (w9 819 (by decide +kernel) rfl), ⟨by decide +kernel, by decide +kernel⟩, by decide +kernel, by decide, TX9, 10, rfl⟩
theorem kX9_291 : lkV RX9 291 5 mX5_copyFrom 1 := ⟨(w9 824 (by decide +kernel) rfl), (w9 825 (by decide +kernel) rfl), (w9 826 (by decide +kernel) rfl), (w9 36 (by decide +kernel) rfl), (w9 827 (by decide +kernel) rfl), ⟨by decide +kernel, by decide +kernel⟩, by decide +kernel, by decide, TX5, 10, rfl⟩
theorem wX9_229 : Cond.constantFloat RX9 229 1056964608 ∈ lw_w := (w9 719 (by decide +kernel) rfl)
theorem wX9_233 : Cond.constant RX9 233 (iI (1000000)) ∈ lw_w := (w9 729 (by decide +kernel) rfl)
theorem wX9_104 : Cond.constantLong RX9 104 (lI (-1)) ∈ lw_w := (w9 378 (by decide +kernel) rfl)
theorem wX9_242 : Cond.constantLong RX9 242 (lI (-9223372036854775808)) ∈ lw_w := (w9 738 (by decide +kernel) rfl)
theorem wX9_304 : Cond.constantDouble RX9 304 4696837146684686336 ∈ lw_w := (w9 737 (by decide +kernel) rfl)
theorem wX9_306 : Cond.constantDouble RX9 306 4636666922610458624 ∈ lw_w := (w9 750 (by decide +kernel) rfl)
theorem wX9_308 : Cond.constantDouble RX9 308 4602678819172646912 ∈ lw_w := (w9 751 (by decide +kernel) rfl)
theorem pfX9_21 : fp9 RX9 21 7 2 0 .boolean := ⟨fX9_21, tyX9, fun _ _ _ h => by cases h; exact tyX9_ok, fun _ _ _ h => by cases h; exact nmX9, fun _ _ _ h => by cases h; rfl, fun _ _ _ h => by cases h; decide +kernel⟩
theorem pfX9_79 : fp9 RX9 79 4 0 0 .int := ⟨fX9_79, tyX4, fun _ _ _ h => by cases h; exact tyX4_ok, fun _ _ _ h => by cases h; exact nmX4, fun _ _ _ h => by cases h; rfl, fun _ _ _ h => by cases h; decide +kernel⟩
theorem pfX9_141 : fp9 RX9 141 5 7 0 .int := ⟨fX9_141, tyX5, fun _ _ _ h => by cases h; exact tyX5_ok, fun _ _ _ h => by cases h; exact nmX5, fun _ _ _ h => by cases h; rfl, fun _ _ _ h => by cases h; decide +kernel⟩
theorem pfX9_155 : fp9 RX9 155 5 9 1 .long := ⟨fX9_155, tyX5, fun _ _ _ h => by cases h; exact tyX5_ok, fun _ _ _ h => by cases h; exact nmX5, fun _ _ _ h => by cases h; rfl, fun _ _ _ h => by cases h; decide +kernel⟩
theorem fX0_9 : fd9 RX0 9 0 0 0 := ⟨RX0, TX0, 10, "RewritingTermination$Found", rfl, by decide, (w9 169 (by decide +kernel) rfl), incX0, fun _ _ _ _ h => h, rfl, rfl⟩
theorem fX0_15 : fd9 RX0 15 0 1 2 := ⟨RX0, TX0, 10, "RewritingTermination$Found", rfl, by decide, (w9 170 (by decide +kernel) rfl), incX0, fun _ _ _ _ h => h, rfl, rfl⟩
theorem fX0_19 : fd9 RX0 19 0 2 2 := ⟨RX0, TX0, 10, "RewritingTermination$Found", rfl, by decide, (w9 171 (by decide +kernel) rfl), incX0, fun _ _ _ _ h => h, rfl, rfl⟩
theorem fX0_23 : fd9 RX0 23 0 3 2 := ⟨RX0, TX0, 10, "RewritingTermination$Found", rfl, by decide, (w9 172 (by decide +kernel) rfl), incX0, fun _ _ _ _ h => h, rfl, rfl⟩
theorem fX0_26 : fd9 RX0 26 0 4 2 := ⟨RX0, TX0, 10, "RewritingTermination$Found", rfl, by decide, (w9 173 (by decide +kernel) rfl), incX0, fun _ _ _ _ h => h, rfl, rfl⟩
theorem fX0_29 : fd9 RX0 29 0 5 2 := ⟨RX0, TX0, 10, "RewritingTermination$Found", rfl, by decide, (w9 174 (by decide +kernel) rfl), incX0, fun _ _ _ _ h => h, rfl, rfl⟩
theorem fX0_32 : fd9 RX0 32 0 6 2 := ⟨RX0, TX0, 10, "RewritingTermination$Found", rfl, by decide, (w9 175 (by decide +kernel) rfl), incX0, fun _ _ _ _ h => h, rfl, rfl⟩
theorem fX0_35 : fd9 RX0 35 0 7 2 := ⟨RX0, TX0, 10, "RewritingTermination$Found", rfl, by decide, (w9 176 (by decide +kernel) rfl), incX0, fun _ _ _ _ h => h, rfl, rfl⟩
theorem fX0_38 : fd9 RX0 38 0 8 2 := ⟨RX0, TX0, 10, "RewritingTermination$Found", rfl, by decide, (w9 177 (by decide +kernel) rfl), incX0, fun _ _ _ _ h => h, rfl, rfl⟩
theorem fX0_41 : fd9 RX0 41 0 9 0 := ⟨RX0, TX0, 10, "RewritingTermination$Found", rfl, by decide, (w9 178 (by decide +kernel) rfl), incX0, fun _ _ _ _ h => h, rfl, rfl⟩
theorem fX0_59 : fd9 RX0 59 5 9 1 := ⟨RX5, TX5, 10, "RewritingTermination$Rewriting", rfl, by decide, (w9 100 (by decide +kernel) rfl), incX5, fun _ _ _ _ h => h, rfl, rfl⟩
theorem fX0_78 : fd9 RX0 78 5 1 0 := ⟨RX5, TX5, 10, "RewritingTermination$Rewriting", rfl, by decide, (w9 80 (by decide +kernel) rfl), incX5, fun _ _ _ _ h => h, rfl, rfl⟩
theorem fX0_131 : fd9 RX0 131 4 1 2 := ⟨RX4, TX4, 3, "RewritingTermination$Loop", rfl, by decide, (w9 151 (by decide +kernel) rfl), incX4, fun _ _ _ _ h => h, rfl, rfl⟩
theorem fX0_132 : fd9 RX0 132 4 2 2 := ⟨RX4, TX4, 3, "RewritingTermination$Loop", rfl, by decide, (w9 154 (by decide +kernel) rfl), incX4, fun _ _ _ _ h => h, rfl, rfl⟩
theorem kX0_44 : lkS RX0 44 mJ7_fill_53178 2 := ⟨(w9 644 (by decide +kernel) rfl), (w9 384 (by decide +kernel) rfl), (w9 46 (by decide +kernel) rfl), (w9 385 (by decide +kernel) rfl), ⟨by decide +kernel, by decide +kernel⟩, by decide +kernel, by decide⟩
theorem kX0_73 : lkS RX0 73 mX8_sizeOf 1 := ⟨(w9 658 (by decide +kernel) rfl), (w9 367 (by decide +kernel) rfl), (w9 45 (by decide +kernel) rfl), (w9 368 (by decide +kernel) rfl), ⟨by decide +kernel, by decide +kernel⟩, by decide +kernel, by decide⟩
theorem kX0_93 : lkS RX0 93 mJ9_max_7cf53 2 := ⟨(w9 673 (by decide +kernel) rfl), (w9 501 (by decide +kernel) rfl), (w9 48 (by decide +kernel) rfl), (w9 502 (by decide +kernel) rfl), ⟨by decide +kernel, by decide +kernel⟩, by decide +kernel, by decide⟩
theorem kX0_111 : lkS RX0 111 mX8_occurs 2 := ⟨(w9 694 (by decide +kernel) rfl), (w9 695 (by decide +kernel) rfl), (w9 45 (by decide +kernel) rfl), (w9 696 (by decide +kernel) rfl), ⟨by decide +kernel, by decide +kernel⟩, by decide +kernel, by decide⟩
theorem kX0_123 : lkS RX0 123 mJ9_min_7cf53 2 := ⟨(w9 702 (by decide +kernel) rfl), (w9 471 (by decide +kernel) rfl), (w9 48 (by decide +kernel) rfl), (w9 472 (by decide +kernel) rfl), ⟨by decide +kernel, by decide +kernel⟩, by decide +kernel, by decide⟩
theorem kX0_50 : lkV RX0 50 0 mX0_add 1 := ⟨(w9 645 (by decide +kernel) rfl), (w9 646 (by decide +kernel) rfl), (w9 647 (by decide +kernel) rfl), (w9 39 (by decide +kernel) rfl), (w9 648 (by decide +kernel) rfl), ⟨by decide +kernel, by decide +kernel⟩, by decide +kernel, by decide, TX0, 10, rfl⟩
theorem kX0_56 : lkV RX0 56 0 mX0_placeOf 1 := ⟨(w9 649 (by decide +kernel) rfl), (w9 650 (by decide +kernel) rfl), (w9 651 (by decide +kernel) rfl), (w9 39 (by decide +kernel) rfl), (w9 652 (by decide +kernel) rfl), ⟨by decide +kernel, by decide +kernel⟩, by decide +kernel, by decide, TX0, 10, rfl⟩
theorem kX0_65 : lkV RX0 65 0 mX0_start 1 := ⟨(w9 640 (by decide +kernel) rfl), (w9 641 (by decide +kernel) rfl), (w9 642 (by decide +kernel) rfl), (w9 39 (by decide +kernel) rfl), (w9 643 (by decide +kernel) rfl), ⟨by decide +kernel, by decide +kernel⟩, by decide +kernel, by decide, TX0, 10, rfl⟩
theorem kX0_69 : lkV RX0 69 0 mX0_expand 2 := ⟨(w9 654 (by decide +kernel) rfl), (w9 655 (by decide +kernel) rfl), (w9 656 (by decide +kernel) rfl), (w9 39 (by decide +kernel) rfl), (w9 657 (by decide +kernel) rfl), ⟨by decide +kernel, by decide +kernel⟩, by decide +kernel, by decide, TX0, 10, rfl⟩
theorem kX0_80 : lkV RX0 80 5 mX5_stepped 3 := ⟨(w9 659 (by decide +kernel) rfl), (w9 612 (by decide +kernel) rfl), (w9 613 (by decide +kernel) rfl), (w9 36 (by decide +kernel) rfl), (w9 614 (by decide +kernel) rfl), ⟨by decide +kernel, by decide +kernel⟩, by decide +kernel, by decide, TX5, 10, rfl⟩
theorem kX0_86 : lkV RX0 86 0 mX0_countStepInto 1 := ⟨(w9 661 (by decide +kernel) rfl), (w9 662 (by decide +kernel) rfl), (w9 663 (by decide +kernel) rfl), (w9 39 (by decide +kernel) rfl), (w9 664 (by decide +kernel) rfl), ⟨by decide +kernel, by decide +kernel⟩, by decide +kernel, by decide, TX0, 10, rfl⟩
theorem kX0_90 : lkV RX0 90 0 mX0_numberOf 1 := ⟨(w9 665 (by decide +kernel) rfl), (w9 666 (by decide +kernel) rfl), (w9 667 (by decide +kernel) rfl), (w9 39 (by decide +kernel) rfl), (w9 668 (by decide +kernel) rfl), ⟨by decide +kernel, by decide +kernel⟩, by decide +kernel, by decide, TX0, 10, rfl⟩
theorem kX0_99 : lkV RX0 99 0 mX0_walkFrom 2 := ⟨(w9 674 (by decide +kernel) rfl), (w9 675 (by decide +kernel) rfl), (w9 676 (by decide +kernel) rfl), (w9 39 (by decide +kernel) rfl), (w9 677 (by decide +kernel) rfl), ⟨by decide +kernel, by decide +kernel⟩, by decide +kernel, by decide, TX0, 10, rfl⟩
theorem kX0_103 : lkV RX0 103 0 mX0_walkInto 2 := ⟨(w9 678 (by decide +kernel) rfl), (w9 679 (by decide +kernel) rfl), (w9 680 (by decide +kernel) rfl), (w9 39 (by decide +kernel) rfl), (w9 681 (by decide +kernel) rfl), ⟨by decide +kernel, by decide +kernel⟩, by decide +kernel, by decide, TX0, 10, rfl⟩
theorem kX0_107 : lkV RX0 107 0 mX0_expandForLoop 3 := ⟨(w9 690 (by decide +kernel) rfl), (w9 691 (by decide +kernel) rfl), (w9 692 (by decide +kernel) rfl), (w9 39 (by decide +kernel) rfl), (w9 693 (by decide +kernel) rfl), ⟨by decide +kernel, by decide +kernel⟩, by decide +kernel, by decide, TX0, 10, rfl⟩
theorem kX0_115 : lkV RX0 115 0 mX0_storeLoop 4 := ⟨(w9 698 (by decide +kernel) rfl), (w9 699 (by decide +kernel) rfl), (w9 700 (by decide +kernel) rfl), (w9 39 (by decide +kernel) rfl), (w9 701 (by decide +kernel) rfl), ⟨by decide +kernel, by decide +kernel⟩, by decide +kernel, by decide, TX0, 10, rfl⟩
theorem kX0_119 : lkV RX0 119 0 mX0_addStep 4 := ⟨(w9 703 (by decide +kernel) rfl), (w9 704 (by decide +kernel) rfl), (w9 705 (by decide +kernel) rfl), (w9 39 (by decide +kernel) rfl), (w9 706 (by decide +kernel) rfl), ⟨by decide +kernel, by decide +kernel⟩, by decide +kernel, by decide, TX0, 10, rfl⟩
theorem wX0_54 : Cond.constantLong RX0 54 (lI (-7046029254386353131)) ∈ lw_w := (w9 653 (by decide +kernel) rfl)
theorem wX0_84 : Cond.constantLong RX0 84 (lI (-1)) ∈ lw_w := (w9 660 (by decide +kernel) rfl)
theorem pfX0_9 : fp9 RX0 9 0 0 0 .int := ⟨fX0_9, tyX0, fun _ _ _ h => by cases h; exact tyX0_ok, fun _ _ _ h => by cases h; exact nmX0, fun _ _ _ h => by cases h; rfl, fun _ _ _ h => by cases h; decide +kernel⟩
theorem pfX0_41 : fp9 RX0 41 0 9 0 .int := ⟨fX0_41, tyX0, fun _ _ _ h => by cases h; exact tyX0_ok, fun _ _ _ h => by cases h; exact nmX0, fun _ _ _ h => by cases h; rfl, fun _ _ _ h => by cases h; decide +kernel⟩
theorem fX0_126 : fd9 RX0 126 4 0 0 := ⟨RX4, TX4, 3, "RewritingTermination$Loop", rfl, by decide, (w9 149 (by decide +kernel) rfl), incX4, fun _ _ _ _ h => h, rfl, rfl⟩
theorem pfX0_126 : fp9 RX0 126 4 0 0 .int := ⟨fX0_126, tyX4, fun _ _ _ h => by cases h; exact tyX4_ok, fun _ _ _ h => by cases h; exact nmX4, fun _ _ _ h => by cases h; rfl, fun _ _ _ h => by cases h; decide +kernel⟩
theorem fX1_9 : fd9 RX1 9 1 0 0 := ⟨RX1, TX1, 2, "RewritingTermination$Input", rfl, by decide, (w9 132 (by decide +kernel) rfl), incX1, fun _ _ _ _ h => h, rfl, rfl⟩
theorem fX1_15 : fd9 RX1 15 1 1 2 := ⟨RX1, TX1, 2, "RewritingTermination$Input", rfl, by decide, (w9 134 (by decide +kernel) rfl), incX1, fun _ _ _ _ h => h, rfl, rfl⟩
theorem kX1_21 : lkS RX1 21 mX8_extended 2 := ⟨(w9 363 (by decide +kernel) rfl), (w9 364 (by decide +kernel) rfl), (w9 45 (by decide +kernel) rfl), (w9 365 (by decide +kernel) rfl), ⟨by decide +kernel, by decide +kernel⟩, by decide +kernel, by decide⟩
theorem wX1_19 : Cond.constantLong RX1 19 (lI (-1)) ∈ lw_w := (w9 362 (by decide +kernel) rfl)
theorem pfX1_9 : fp9 RX1 9 1 0 0 .int := ⟨fX1_9, tyX1, fun _ _ _ h => by cases h; exact tyX1_ok, fun _ _ _ h => by cases h; exact nmX1, fun _ _ _ h => by cases h; rfl, fun _ _ _ h => by cases h; decide +kernel⟩
theorem fX2_9 : fd9 RX2 9 2 5 2 := ⟨RX2, TX2, 7, "RewritingTermination$LevelSearch", rfl, by decide, (w9 251 (by decide +kernel) rfl), incX2, fun _ _ _ _ h => h, rfl, rfl⟩
theorem fX2_15 : fd9 RX2 15 2 6 2 := ⟨RX2, TX2, 7, "RewritingTermination$LevelSearch", rfl, by decide, (w9 252 (by decide +kernel) rfl), incX2, fun _ _ _ _ h => h, rfl, rfl⟩
theorem fX2_18 : fd9 RX2 18 5 0 0 := ⟨RX5, TX5, 10, "RewritingTermination$Rewriting", rfl, by decide, (w9 73 (by decide +kernel) rfl), incX5, fun _ _ _ _ h => h, rfl, rfl⟩
theorem fX2_24 : fd9 RX2 24 2 1 0 := ⟨RX2, TX2, 7, "RewritingTermination$LevelSearch", rfl, by decide, (w9 247 (by decide +kernel) rfl), incX2, fun _ _ _ _ h => h, rfl, rfl⟩
theorem fX2_25 : fd9 RX2 25 2 4 0 := ⟨RX2, TX2, 7, "RewritingTermination$LevelSearch", rfl, by decide, (w9 250 (by decide +kernel) rfl), incX2, fun _ _ _ _ h => h, rfl, rfl⟩
theorem fX2_28 : fd9 RX2 28 5 1 0 := ⟨RX5, TX5, 10, "RewritingTermination$Rewriting", rfl, by decide, (w9 78 (by decide +kernel) rfl), incX5, fun _ _ _ _ h => h, rfl, rfl⟩
theorem fX2_31 : fd9 RX2 31 5 4 2 := ⟨RX5, TX5, 10, "RewritingTermination$Rewriting", rfl, by decide, (w9 88 (by decide +kernel) rfl), incX5, fun _ _ _ _ h => h, rfl, rfl⟩
theorem fX2_35 : fd9 RX2 35 5 2 2 := ⟨RX5, TX5, 10, "RewritingTermination$Rewriting", rfl, by decide, (w9 82 (by decide +kernel) rfl), incX5, fun _ _ _ _ h => h, rfl, rfl⟩
theorem fX2_36 : fd9 RX2 36 5 3 2 := ⟨RX5, TX5, 10, "RewritingTermination$Rewriting", rfl, by decide, (w9 85 (by decide +kernel) rfl), incX5, fun _ _ _ _ h => h, rfl, rfl⟩
theorem fX2_41 : fd9 RX2 41 2 3 0 := ⟨RX2, TX2, 7, "RewritingTermination$LevelSearch", rfl, by decide, (w9 249 (by decide +kernel) rfl), incX2, fun _ _ _ _ h => h, rfl, rfl⟩
theorem fX2_44 : fd9 RX2 44 2 2 0 := ⟨RX2, TX2, 7, "RewritingTermination$LevelSearch", rfl, by decide, (w9 248 (by decide +kernel) rfl), incX2, fun _ _ _ _ h => h, rfl, rfl⟩
theorem fX2_59 : fd9 RX2 59 2 0 2 := ⟨RX2, TX2, 7, "RewritingTermination$LevelSearch", rfl, by decide, (w9 220 (by decide +kernel) rfl), incX2, fun U args h x hx => u_same (h _ (w9 221 (by decide +kernel) rfl)) x hx, rfl, rfl⟩
theorem kX2_63 : lkS RX2 63 mX8_sizeOf 1 := ⟨(w9 524 (by decide +kernel) rfl), (w9 367 (by decide +kernel) rfl), (w9 45 (by decide +kernel) rfl), (w9 368 (by decide +kernel) rfl), ⟨by decide +kernel, by decide +kernel⟩, by decide +kernel, by decide⟩
theorem kX2_69 : lkS RX2 69 mJ9_min_7cf53 2 := ⟨(w9 525 (by decide +kernel) rfl), (w9 471 (by decide +kernel) rfl), (w9 48 (by decide +kernel) rfl), (w9 472 (by decide +kernel) rfl), ⟨by decide +kernel, by decide +kernel⟩, by decide +kernel, by decide⟩
theorem kX2_75 : lkS RX2 75 mX8_letterFrom 3 := ⟨(w9 526 (by decide +kernel) rfl), (w9 474 (by decide +kernel) rfl), (w9 45 (by decide +kernel) rfl), (w9 475 (by decide +kernel) rfl), ⟨by decide +kernel, by decide +kernel⟩, by decide +kernel, by decide⟩
theorem kX2_37 : lkV RX2 37 2 mX2_findWeightless 1 := ⟨(w9 554 (by decide +kernel) rfl), (w9 556 (by decide +kernel) rfl), (w9 5 (by decide +kernel) rfl), (w9 42 (by decide +kernel) rfl), (w9 557 (by decide +kernel) rfl), ⟨by decide +kernel, by decide +kernel⟩, by decide +kernel, by decide, TX2, 7, rfl⟩
theorem kX2_47 : lkU RX2 47 2 RX6 ⟨RX2, "findFirst", "(II)Z"⟩ mX6_findFirst 2 := ⟨RX2, TX2, 7, rfl, (w9 562 (by decide +kernel) rfl), (w9 563 (by decide +kernel) rfl), (w9 564 (by decide +kernel) rfl), (w9 507 (by decide +kernel) rfl), (w9 40 (by decide +kernel) rfl), (w9 508 (by decide +kernel) rfl), ⟨by decide +kernel, by decide +kernel⟩, by decide +kernel, by decide, Or.inl rfl⟩
theorem kX2_51 : lkV RX2 51 2 mX2_mayBeAdmissible 1 := ⟨(w9 516 (by decide +kernel) rfl), (w9 518 (by decide +kernel) rfl), (w9 2 (by decide +kernel) rfl), (w9 42 (by decide +kernel) rfl), (w9 519 (by decide +kernel) rfl), ⟨by decide +kernel, by decide +kernel⟩, by decide +kernel, by decide, TX2, 7, rfl⟩
theorem kX2_55 : lkV RX2 55 2 mX2_mayOrient 3 := ⟨(w9 520 (by decide +kernel) rfl), (w9 522 (by decide +kernel) rfl), (w9 3 (by decide +kernel) rfl), (w9 42 (by decide +kernel) rfl), (w9 523 (by decide +kernel) rfl), ⟨by decide +kernel, by decide +kernel⟩, by decide +kernel, by decide, TX2, 7, rfl⟩
theorem pfX2_24 : fp9 RX2 24 2 1 0 .int := ⟨fX2_24, tyX2, fun _ _ _ h => by cases h; exact tyX2_ok, fun _ _ _ h => by cases h; exact nmX2, fun _ _ _ h => by cases h; rfl, fun _ _ _ h => by cases h; decide +kernel⟩
theorem pfX2_25 : fp9 RX2 25 2 4 0 .int := ⟨fX2_25, tyX2, fun _ _ _ h => by cases h; exact tyX2_ok, fun _ _ _ h => by cases h; exact nmX2, fun _ _ _ h => by cases h; rfl, fun _ _ _ h => by cases h; decide +kernel⟩
theorem pfX2_41 : fp9 RX2 41 2 3 0 .int := ⟨fX2_41, tyX2, fun _ _ _ h => by cases h; exact tyX2_ok, fun _ _ _ h => by cases h; exact nmX2, fun _ _ _ h => by cases h; rfl, fun _ _ _ h => by cases h; decide +kernel⟩
theorem pfX2_44 : fp9 RX2 44 2 2 0 .int := ⟨fX2_44, tyX2, fun _ _ _ h => by cases h; exact tyX2_ok, fun _ _ _ h => by cases h; exact nmX2, fun _ _ _ h => by cases h; rfl, fun _ _ _ h => by cases h; decide +kernel⟩
theorem fX3_9 : fd9 RX3 9 3 4 2 := ⟨RX3, TX3, 8, "RewritingTermination$LinearSearch", rfl, by decide, (w9 213 (by decide +kernel) rfl), incX3, fun _ _ _ _ h => h, rfl, rfl⟩
theorem fX3_14 : fd9 RX3 14 3 5 2 := ⟨RX3, TX3, 8, "RewritingTermination$LinearSearch", rfl, by decide, (w9 214 (by decide +kernel) rfl), incX3, fun _ _ _ _ h => h, rfl, rfl⟩
theorem fX3_17 : fd9 RX3 17 3 6 2 := ⟨RX3, TX3, 8, "RewritingTermination$LinearSearch", rfl, by decide, (w9 215 (by decide +kernel) rfl), incX3, fun _ _ _ _ h => h, rfl, rfl⟩
theorem fX3_20 : fd9 RX3 20 5 1 0 := ⟨RX5, TX5, 10, "RewritingTermination$Rewriting", rfl, by decide, (w9 76 (by decide +kernel) rfl), incX5, fun _ _ _ _ h => h, rfl, rfl⟩
theorem fX3_26 : fd9 RX3 26 3 1 0 := ⟨RX3, TX3, 8, "RewritingTermination$LinearSearch", rfl, by decide, (w9 210 (by decide +kernel) rfl), incX3, fun _ _ _ _ h => h, rfl, rfl⟩
theorem fX3_29 : fd9 RX3 29 5 0 0 := ⟨RX5, TX5, 10, "RewritingTermination$Rewriting", rfl, by decide, (w9 74 (by decide +kernel) rfl), incX5, fun _ _ _ _ h => h, rfl, rfl⟩
theorem fX3_32 : fd9 RX3 32 3 2 0 := ⟨RX3, TX3, 8, "RewritingTermination$LinearSearch", rfl, by decide, (w9 211 (by decide +kernel) rfl), incX3, fun _ _ _ _ h => h, rfl, rfl⟩
theorem fX3_35 : fd9 RX3 35 3 3 0 := ⟨RX3, TX3, 8, "RewritingTermination$LinearSearch", rfl, by decide, (w9 212 (by decide +kernel) rfl), incX3, fun _ _ _ _ h => h, rfl, rfl⟩
theorem fX3_38 : fd9 RX3 38 3 7 0 := ⟨RX3, TX3, 8, "RewritingTermination$LinearSearch", rfl, by decide, (w9 216 (by decide +kernel) rfl), incX3, fun _ _ _ _ h => h, rfl, rfl⟩
theorem fX3_42 : fd9 RX3 42 5 4 2 := ⟨RX5, TX5, 10, "RewritingTermination$Rewriting", rfl, by decide, (w9 89 (by decide +kernel) rfl), incX5, fun _ _ _ _ h => h, rfl, rfl⟩
theorem fX3_55 : fd9 RX3 55 3 0 2 := ⟨RX3, TX3, 8, "RewritingTermination$LinearSearch", rfl, by decide, (w9 218 (by decide +kernel) rfl), incX3, fun U args h x hx => u_same (h _ (w9 219 (by decide +kernel) rfl)) x hx, rfl, rfl⟩
theorem kX3_49 : lkS RX3 49 mJ9_max_7cf53 2 := ⟨(w9 500 (by decide +kernel) rfl), (w9 501 (by decide +kernel) rfl), (w9 48 (by decide +kernel) rfl), (w9 502 (by decide +kernel) rfl), ⟨by decide +kernel, by decide +kernel⟩, by decide +kernel, by decide⟩
theorem kX3_45 : lkV RX3 45 3 mX3_boundRows 1 := ⟨(w9 496 (by decide +kernel) rfl), (w9 498 (by decide +kernel) rfl), (w9 1 (by decide +kernel) rfl), (w9 41 (by decide +kernel) rfl), (w9 499 (by decide +kernel) rfl), ⟨by decide +kernel, by decide +kernel⟩, by decide +kernel, by decide, TX3, 8, rfl⟩
theorem kX3_59 : lkV RX3 59 3 mX3_hasNonZero 0 := ⟨(w9 530 (by decide +kernel) rfl), (w9 532 (by decide +kernel) rfl), (w9 4 (by decide +kernel) rfl), (w9 41 (by decide +kernel) rfl), (w9 533 (by decide +kernel) rfl), ⟨by decide +kernel, by decide +kernel⟩, by decide +kernel, by decide, TX3, 8, rfl⟩
theorem pfX3_26 : fp9 RX3 26 3 1 0 .int := ⟨fX3_26, tyX3, fun _ _ _ h => by cases h; exact tyX3_ok, fun _ _ _ h => by cases h; exact nmX3, fun _ _ _ h => by cases h; rfl, fun _ _ _ h => by cases h; decide +kernel⟩
theorem pfX3_32 : fp9 RX3 32 3 2 0 .int := ⟨fX3_32, tyX3, fun _ _ _ h => by cases h; exact tyX3_ok, fun _ _ _ h => by cases h; exact nmX3, fun _ _ _ h => by cases h; rfl, fun _ _ _ h => by cases h; decide +kernel⟩
theorem pfX3_35 : fp9 RX3 35 3 3 0 .int := ⟨fX3_35, tyX3, fun _ _ _ h => by cases h; exact tyX3_ok, fun _ _ _ h => by cases h; exact nmX3, fun _ _ _ h => by cases h; rfl, fun _ _ _ h => by cases h; decide +kernel⟩
theorem pfX3_38 : fp9 RX3 38 3 7 0 .boolean := ⟨fX3_38, tyX3, fun _ _ _ h => by cases h; exact tyX3_ok, fun _ _ _ h => by cases h; exact nmX3, fun _ _ _ h => by cases h; rfl, fun _ _ _ h => by cases h; decide +kernel⟩
theorem fX5_9 : fd9 RX5 9 5 2 2 := ⟨RX5, TX5, 10, "RewritingTermination$Rewriting", rfl, by decide, (w9 81 (by decide +kernel) rfl), incX5, fun _ _ _ _ h => h, rfl, rfl⟩
theorem fX5_15 : fd9 RX5 15 5 3 2 := ⟨RX5, TX5, 10, "RewritingTermination$Rewriting", rfl, by decide, (w9 84 (by decide +kernel) rfl), incX5, fun _ _ _ _ h => h, rfl, rfl⟩
theorem fX5_20 : fd9 RX5 20 5 4 2 := ⟨RX5, TX5, 10, "RewritingTermination$Rewriting", rfl, by decide, (w9 87 (by decide +kernel) rfl), incX5, fun _ _ _ _ h => h, rfl, rfl⟩
theorem fX5_23 : fd9 RX5 23 5 5 2 := ⟨RX5, TX5, 10, "RewritingTermination$Rewriting", rfl, by decide, (w9 91 (by decide +kernel) rfl), incX5, fun _ _ _ _ h => h, rfl, rfl⟩
theorem fX5_27 : fd9 RX5 27 5 6 2 := ⟨RX5, TX5, 10, "RewritingTermination$Rewriting", rfl, by decide, (w9 93 (by decide +kernel) rfl), incX5, fun _ _ _ _ h => h, rfl, rfl⟩
theorem fX5_30 : fd9 RX5 30 5 8 2 := ⟨RX5, TX5, 10, "RewritingTermination$Rewriting", rfl, by decide, (w9 97 (by decide +kernel) rfl), incX5, fun _ _ _ _ h => h, rfl, rfl⟩
theorem fX5_38 : fd9 RX5 38 5 0 0 := ⟨RX5, TX5, 10, "RewritingTermination$Rewriting", rfl, by decide, (w9 72 (by decide +kernel) rfl), incX5, fun _ _ _ _ h => h, rfl, rfl⟩
theorem fX5_42 : fd9 RX5 42 5 1 0 := ⟨RX5, TX5, 10, "RewritingTermination$Rewriting", rfl, by decide, (w9 77 (by decide +kernel) rfl), incX5, fun _ _ _ _ h => h, rfl, rfl⟩
theorem fX5_45 : fd9 RX5 45 5 7 0 := ⟨RX5, TX5, 10, "RewritingTermination$Rewriting", rfl, by decide, (w9 95 (by decide +kernel) rfl), incX5, fun _ _ _ _ h => h, rfl, rfl⟩
theorem fX5_48 : fd9 RX5 48 5 9 1 := ⟨RX5, TX5, 10, "RewritingTermination$Rewriting", rfl, by decide, (w9 99 (by decide +kernel) rfl), incX5, fun _ _ _ _ h => h, rfl, rfl⟩
theorem kX5_58 : lkS RX5 58 mJ7_fill_53178 2 := ⟨(w9 383 (by decide +kernel) rfl), (w9 384 (by decide +kernel) rfl), (w9 46 (by decide +kernel) rfl), (w9 385 (by decide +kernel) rfl), ⟨by decide +kernel, by decide +kernel⟩, by decide +kernel, by decide⟩
theorem kX5_64 : lkS RX5 64 mX8_sizeOf 1 := ⟨(w9 386 (by decide +kernel) rfl), (w9 367 (by decide +kernel) rfl), (w9 45 (by decide +kernel) rfl), (w9 368 (by decide +kernel) rfl), ⟨by decide +kernel, by decide +kernel⟩, by decide +kernel, by decide⟩
theorem kX5_70 : lkS RX5 70 mX8_letterAt 2 := ⟨(w9 387 (by decide +kernel) rfl), (w9 388 (by decide +kernel) rfl), (w9 45 (by decide +kernel) rfl), (w9 389 (by decide +kernel) rfl), ⟨by decide +kernel, by decide +kernel⟩, by decide +kernel, by decide⟩
theorem kX5_77 : lkS RX5 77 mJ9_min_7cf53 2 := ⟨(w9 470 (by decide +kernel) rfl), (w9 471 (by decide +kernel) rfl), (w9 48 (by decide +kernel) rfl), (w9 472 (by decide +kernel) rfl), ⟨by decide +kernel, by decide +kernel⟩, by decide +kernel, by decide⟩
theorem kX5_83 : lkS RX5 83 mX8_letterFrom 3 := ⟨(w9 473 (by decide +kernel) rfl), (w9 474 (by decide +kernel) rfl), (w9 45 (by decide +kernel) rfl), (w9 475 (by decide +kernel) rfl), ⟨by decide +kernel, by decide +kernel⟩, by decide +kernel, by decide⟩
theorem kX5_91 : lkS RX5 91 mX8_occursAt 3 := ⟨(w9 615 (by decide +kernel) rfl), (w9 616 (by decide +kernel) rfl), (w9 45 (by decide +kernel) rfl), (w9 617 (by decide +kernel) rfl), ⟨by decide +kernel, by decide +kernel⟩, by decide +kernel, by decide⟩
theorem kX5_97 : lkS RX5 97 mX8_replaced 4 := ⟨(w9 619 (by decide +kernel) rfl), (w9 620 (by decide +kernel) rfl), (w9 45 (by decide +kernel) rfl), (w9 621 (by decide +kernel) rfl), ⟨by decide +kernel, by decide +kernel⟩, by decide +kernel, by decide⟩
theorem kX5_74 : lkV RX5 74 5 mX5_weightOf 1 := ⟨(w9 466 (by decide +kernel) rfl), (w9 467 (by decide +kernel) rfl), (w9 468 (by decide +kernel) rfl), (w9 36 (by decide +kernel) rfl), (w9 469 (by decide +kernel) rfl), ⟨by decide +kernel, by decide +kernel⟩, by decide +kernel, by decide, TX5, 10, rfl⟩
theorem kX5_87 : lkV RX5 87 5 mX5_isAboveOthers 1 := ⟨(w9 454 (by decide +kernel) rfl), (w9 455 (by decide +kernel) rfl), (w9 456 (by decide +kernel) rfl), (w9 36 (by decide +kernel) rfl), (w9 457 (by decide +kernel) rfl), ⟨by decide +kernel, by decide +kernel⟩, by decide +kernel, by decide, TX5, 10, rfl⟩
theorem kX5_101 : lkV RX5 101 5 mX5_stepped 3 := ⟨(w9 631 (by decide +kernel) rfl), (w9 612 (by decide +kernel) rfl), (w9 613 (by decide +kernel) rfl), (w9 36 (by decide +kernel) rfl), (w9 614 (by decide +kernel) rfl), ⟨by decide +kernel, by decide +kernel⟩, by decide +kernel, by decide, TX5, 10, rfl⟩
theorem wX5_105 : Cond.constantFloat RX5 105 1040187392 ∈ lw_w := (w9 724 (by decide +kernel) rfl)
theorem wX5_95 : Cond.constantLong RX5 95 (lI (-1)) ∈ lw_w := (w9 618 (by decide +kernel) rfl)
theorem pfX5_38 : fp9 RX5 38 5 0 0 .int := ⟨fX5_38, tyX5, fun _ _ _ h => by cases h; exact tyX5_ok, fun _ _ _ h => by cases h; exact nmX5, fun _ _ _ h => by cases h; rfl, fun _ _ _ h => by cases h; decide +kernel⟩
theorem pfX5_42 : fp9 RX5 42 5 1 0 .int := ⟨fX5_42, tyX5, fun _ _ _ h => by cases h; exact tyX5_ok, fun _ _ _ h => by cases h; exact nmX5, fun _ _ _ h => by cases h; rfl, fun _ _ _ h => by cases h; decide +kernel⟩
theorem pfX5_45 : fp9 RX5 45 5 7 0 .int := ⟨fX5_45, tyX5, fun _ _ _ h => by cases h; exact tyX5_ok, fun _ _ _ h => by cases h; exact nmX5, fun _ _ _ h => by cases h; rfl, fun _ _ _ h => by cases h; decide +kernel⟩
theorem pfX5_48 : fp9 RX5 48 5 9 1 .long := ⟨fX5_48, tyX5, fun _ _ _ h => by cases h; exact tyX5_ok, fun _ _ _ h => by cases h; exact nmX5, fun _ _ _ h => by cases h; rfl, fun _ _ _ h => by cases h; decide +kernel⟩
theorem fX6_9_2 : fd9 RX6 9 2 0 2 := ⟨RX2, TX2, 7, "RewritingTermination$Search", rfl, by decide, (w9 217 (by decide +kernel) rfl), incX2, fun _ _ _ _ h => h, rfl, rfl⟩
theorem fX6_9_3 : fd9 RX6 9 3 0 2 := ⟨RX3, TX3, 8, "RewritingTermination$Search", rfl, by decide, (w9 217 (by decide +kernel) rfl), incX3, fun _ _ _ _ h => h, rfl, rfl⟩
theorem kX6_14_2 : lkU RX6 14 2 RX6 ⟨RX6, "mayFit", "(I)Z"⟩ mX2_mayFit 1 := ⟨RX2, TX2, 7, rfl, (w9 510 (by decide +kernel) rfl), (w9 512 (by decide +kernel) rfl), (w9 513 (by decide +kernel) rfl), (w9 514 (by decide +kernel) rfl), (w9 42 (by decide +kernel) rfl), (w9 515 (by decide +kernel) rfl), ⟨by decide +kernel, by decide +kernel⟩, by decide +kernel, by decide, Or.inr rfl⟩
theorem kX6_14_3 : lkU RX6 14 3 RX6 ⟨RX6, "mayFit", "(I)Z"⟩ mX3_mayFit 1 := ⟨RX3, TX3, 8, rfl, (w9 510 (by decide +kernel) rfl), (w9 512 (by decide +kernel) rfl), (w9 527 (by decide +kernel) rfl), (w9 528 (by decide +kernel) rfl), (w9 41 (by decide +kernel) rfl), (w9 529 (by decide +kernel) rfl), ⟨by decide +kernel, by decide +kernel⟩, by decide +kernel, by decide, Or.inr rfl⟩
theorem kX6_18_2 : lkU RX6 18 2 RX6 ⟨RX6, "advance", "(II)I"⟩ mX6_advance 2 := ⟨RX2, TX2, 7, rfl, (w9 534 (by decide +kernel) rfl), (w9 1307 (by decide +kernel) rfl), (w9x List.mem_cons_self rfl), (w9 536 (by decide +kernel) rfl), (w9 40 (by decide +kernel) rfl), (w9 537 (by decide +kernel) rfl), ⟨by decide +kernel, by decide +kernel⟩, by decide +kernel, by decide, Or.inl rfl⟩
theorem kX6_18_3 : lkU RX6 18 3 RX6 ⟨RX6, "advance", "(II)I"⟩ mX6_advance 2 := ⟨RX3, TX3, 8, rfl, (w9 534 (by decide +kernel) rfl), (w9 1307 (by decide +kernel) rfl), (w9x (List.mem_cons_of_mem _ List.mem_cons_self) rfl), (w9 536 (by decide +kernel) rfl), (w9 40 (by decide +kernel) rfl), (w9 537 (by decide +kernel) rfl), ⟨by decide +kernel, by decide +kernel⟩, by decide +kernel, by decide, Or.inl rfl⟩
theorem wX6_13 : Cond.constant RX6 13 (iI (1000000)) ∈ lw_w := (w9 509 (by decide +kernel) rfl)
theorem fX7_11 : fd9 RX7 11 6 0 0 := ⟨RX7, TX7, 5, "RewritingTermination$Slot", rfl, by decide, (w9 274 (by decide +kernel) rfl), incX7, fun _ _ _ _ h => h, rfl, rfl⟩
theorem fX7_15 : fd9 RX7 15 6 1 0 := ⟨RX7, TX7, 5, "RewritingTermination$Slot", rfl, by decide, (w9 276 (by decide +kernel) rfl), incX7, fun _ _ _ _ h => h, rfl, rfl⟩
theorem fX7_18 : fd9 RX7 18 6 2 2 := ⟨RX7, TX7, 5, "RewritingTermination$Slot", rfl, by decide, (w9 278 (by decide +kernel) rfl), incX7, fun _ _ _ _ h => h, rfl, rfl⟩
theorem fX7_22 : fd9 RX7 22 6 3 2 := ⟨RX7, TX7, 5, "RewritingTermination$Slot", rfl, by decide, (w9 280 (by decide +kernel) rfl), incX7, fun _ _ _ _ h => h, rfl, rfl⟩
theorem fX7_26 : fd9 RX7 26 6 4 2 := ⟨RX7, TX7, 5, "RewritingTermination$Slot", rfl, by decide, (w9 281 (by decide +kernel) rfl), incX7, fun _ _ _ _ h => h, rfl, rfl⟩
theorem pfX7_11 : fp9 RX7 11 6 0 0 .int := ⟨fX7_11, tyX7, fun _ _ _ h => by cases h; exact tyX7_ok, fun _ _ _ h => by cases h; exact nmX7, fun _ _ _ h => by cases h; rfl, fun _ _ _ h => by cases h; decide +kernel⟩
theorem pfX7_15 : fp9 RX7 15 6 1 0 .int := ⟨fX7_15, tyX7, fun _ _ _ h => by cases h; exact tyX7_ok, fun _ _ _ h => by cases h; exact nmX7, fun _ _ _ h => by cases h; rfl, fun _ _ _ h => by cases h; decide +kernel⟩
theorem kX8_9 : lkS RX8 9 mX8_sizeOf 1 := ⟨(w9 366 (by decide +kernel) rfl), (w9 367 (by decide +kernel) rfl), (w9 45 (by decide +kernel) rfl), (w9 368 (by decide +kernel) rfl), ⟨by decide +kernel, by decide +kernel⟩, by decide +kernel, by decide⟩
theorem kX8_15 : lkS RX8 15 mX8_lowest 2 := ⟨(w9 372 (by decide +kernel) rfl), (w9 373 (by decide +kernel) rfl), (w9 45 (by decide +kernel) rfl), (w9 374 (by decide +kernel) rfl), ⟨by decide +kernel, by decide +kernel⟩, by decide +kernel, by decide⟩
theorem kX8_19 : lkS RX8 19 mX8_lettersOf 1 := ⟨(w9 369 (by decide +kernel) rfl), (w9 370 (by decide +kernel) rfl), (w9 45 (by decide +kernel) rfl), (w9 371 (by decide +kernel) rfl), ⟨by decide +kernel, by decide +kernel⟩, by decide +kernel, by decide⟩
theorem kX8_23 : lkS RX8 23 mX8_make 2 := ⟨(w9 375 (by decide +kernel) rfl), (w9 376 (by decide +kernel) rfl), (w9 45 (by decide +kernel) rfl), (w9 377 (by decide +kernel) rfl), ⟨by decide +kernel, by decide +kernel⟩, by decide +kernel, by decide⟩
theorem kX8_27 : lkS RX8 27 mX8_letterAt 2 := ⟨(w9 589 (by decide +kernel) rfl), (w9 388 (by decide +kernel) rfl), (w9 45 (by decide +kernel) rfl), (w9 389 (by decide +kernel) rfl), ⟨by decide +kernel, by decide +kernel⟩, by decide +kernel, by decide⟩
theorem kX8_31 : lkS RX8 31 mX8_occursAt 3 := ⟨(w9 697 (by decide +kernel) rfl), (w9 616 (by decide +kernel) rfl), (w9 45 (by decide +kernel) rfl), (w9 617 (by decide +kernel) rfl), ⟨by decide +kernel, by decide +kernel⟩, by decide +kernel, by decide⟩
theorem wX8_35 : Cond.constantLong RX8 35 (lI (-1)) ∈ lw_w := (w9 622 (by decide +kernel) rfl)
theorem fX10_9 : fd9 RX10 9 8 0 0 := ⟨RX10, TX10, 44, "RewritingTerminationModel", rfl, by decide, (w9 838 (by decide +kernel) rfl), incX10, fun _ _ _ _ h => h, rfl, rfl⟩
theorem fX10_15 : fd9 RX10 15 8 2 2 := ⟨RX10, TX10, 44, "RewritingTerminationModel", rfl, by decide, (w9 840 (by decide +kernel) rfl), incX10, fun _ _ _ _ h => h, rfl, rfl⟩
theorem fX10_19 : fd9 RX10 19 8 3 2 := ⟨RX10, TX10, 44, "RewritingTerminationModel", rfl, by decide, (w9 841 (by decide +kernel) rfl), incX10, fun _ _ _ _ h => h, rfl, rfl⟩
theorem fX10_22 : fd9 RX10 22 8 4 2 := ⟨RX10, TX10, 44, "RewritingTerminationModel", rfl, by decide, (w9 842 (by decide +kernel) rfl), incX10, fun _ _ _ _ h => h, rfl, rfl⟩
theorem fX10_25 : fd9 RX10 25 8 5 2 := ⟨RX10, TX10, 44, "RewritingTerminationModel", rfl, by decide, (w9 843 (by decide +kernel) rfl), incX10, fun _ _ _ _ h => h, rfl, rfl⟩
theorem fX10_28 : fd9 RX10 28 8 7 2 := ⟨RX10, TX10, 44, "RewritingTerminationModel", rfl, by decide, (w9 845 (by decide +kernel) rfl), incX10, fun _ _ _ _ h => h, rfl, rfl⟩
theorem fX10_32 : fd9 RX10 32 8 8 2 := ⟨RX10, TX10, 44, "RewritingTerminationModel", rfl, by decide, (w9 846 (by decide +kernel) rfl), incX10, fun _ _ _ _ h => h, rfl, rfl⟩
theorem fX10_35 : fd9 RX10 35 8 10 2 := ⟨RX10, TX10, 44, "RewritingTerminationModel", rfl, by decide, (w9 848 (by decide +kernel) rfl), incX10, fun _ _ _ _ h => h, rfl, rfl⟩
theorem fX10_38 : fd9 RX10 38 8 13 2 := ⟨RX10, TX10, 44, "RewritingTerminationModel", rfl, by decide, (w9 851 (by decide +kernel) rfl), incX10, fun _ _ _ _ h => h, rfl, rfl⟩
theorem fX10_41 : fd9 RX10 41 8 14 2 := ⟨RX10, TX10, 44, "RewritingTerminationModel", rfl, by decide, (w9 852 (by decide +kernel) rfl), incX10, fun _ _ _ _ h => h, rfl, rfl⟩
theorem fX10_44 : fd9 RX10 44 8 15 2 := ⟨RX10, TX10, 44, "RewritingTerminationModel", rfl, by decide, (w9 853 (by decide +kernel) rfl), incX10, fun _ _ _ _ h => h, rfl, rfl⟩
theorem fX10_47 : fd9 RX10 47 8 16 2 := ⟨RX10, TX10, 44, "RewritingTerminationModel", rfl, by decide, (w9 854 (by decide +kernel) rfl), incX10, fun _ _ _ _ h => h, rfl, rfl⟩
theorem fX10_50 : fd9 RX10 50 8 17 2 := ⟨RX10, TX10, 44, "RewritingTerminationModel", rfl, by decide, (w9 855 (by decide +kernel) rfl), incX10, fun _ _ _ _ h => h, rfl, rfl⟩
theorem fX10_54 : fd9 RX10 54 8 18 2 := ⟨RX10, TX10, 44, "RewritingTerminationModel", rfl, by decide, (w9 856 (by decide +kernel) rfl), incX10, fun _ _ _ _ h => h, rfl, rfl⟩
theorem fX10_57 : fd9 RX10 57 8 19 2 := ⟨RX10, TX10, 44, "RewritingTerminationModel", rfl, by decide, (w9 857 (by decide +kernel) rfl), incX10, fun _ _ _ _ h => h, rfl, rfl⟩
theorem fX10_61 : fd9 RX10 61 8 23 2 := ⟨RX10, TX10, 44, "RewritingTerminationModel", rfl, by decide, (w9 861 (by decide +kernel) rfl), incX10, fun _ _ _ _ h => h, rfl, rfl⟩
theorem fX10_64 : fd9 RX10 64 8 24 2 := ⟨RX10, TX10, 44, "RewritingTerminationModel", rfl, by decide, (w9 862 (by decide +kernel) rfl), incX10, fun _ _ _ _ h => h, rfl, rfl⟩
theorem fX10_67 : fd9 RX10 67 8 25 2 := ⟨RX10, TX10, 44, "RewritingTerminationModel", rfl, by decide, (w9 863 (by decide +kernel) rfl), incX10, fun _ _ _ _ h => h, rfl, rfl⟩
theorem fX10_70 : fd9 RX10 70 8 26 2 := ⟨RX10, TX10, 44, "RewritingTerminationModel", rfl, by decide, (w9 864 (by decide +kernel) rfl), incX10, fun _ _ _ _ h => h, rfl, rfl⟩
theorem fX10_73 : fd9 RX10 73 8 28 2 := ⟨RX10, TX10, 44, "RewritingTerminationModel", rfl, by decide, (w9 866 (by decide +kernel) rfl), incX10, fun _ _ _ _ h => h, rfl, rfl⟩
theorem fX10_76 : fd9 RX10 76 8 29 2 := ⟨RX10, TX10, 44, "RewritingTerminationModel", rfl, by decide, (w9 867 (by decide +kernel) rfl), incX10, fun _ _ _ _ h => h, rfl, rfl⟩
theorem fX10_79 : fd9 RX10 79 8 31 2 := ⟨RX10, TX10, 44, "RewritingTerminationModel", rfl, by decide, (w9 869 (by decide +kernel) rfl), incX10, fun _ _ _ _ h => h, rfl, rfl⟩
theorem fX10_82 : fd9 RX10 82 8 32 2 := ⟨RX10, TX10, 44, "RewritingTerminationModel", rfl, by decide, (w9 870 (by decide +kernel) rfl), incX10, fun _ _ _ _ h => h, rfl, rfl⟩
theorem fX10_85 : fd9 RX10 85 8 33 2 := ⟨RX10, TX10, 44, "RewritingTerminationModel", rfl, by decide, (w9 871 (by decide +kernel) rfl), incX10, fun _ _ _ _ h => h, rfl, rfl⟩
theorem fX10_88 : fd9 RX10 88 8 34 2 := ⟨RX10, TX10, 44, "RewritingTerminationModel", rfl, by decide, (w9 872 (by decide +kernel) rfl), incX10, fun _ _ _ _ h => h, rfl, rfl⟩
theorem fX10_91 : fd9 RX10 91 8 35 2 := ⟨RX10, TX10, 44, "RewritingTerminationModel", rfl, by decide, (w9 873 (by decide +kernel) rfl), incX10, fun _ _ _ _ h => h, rfl, rfl⟩
theorem fX10_94 : fd9 RX10 94 8 36 2 := ⟨RX10, TX10, 44, "RewritingTerminationModel", rfl, by decide, (w9 874 (by decide +kernel) rfl), incX10, fun _ _ _ _ h => h, rfl, rfl⟩
theorem fX10_97 : fd9 RX10 97 8 37 2 := ⟨RX10, TX10, 44, "RewritingTerminationModel", rfl, by decide, (w9 875 (by decide +kernel) rfl), incX10, fun _ _ _ _ h => h, rfl, rfl⟩
theorem fX10_100 : fd9 RX10 100 8 38 2 := ⟨RX10, TX10, 44, "RewritingTerminationModel", rfl, by decide, (w9 876 (by decide +kernel) rfl), incX10, fun _ _ _ _ h => h, rfl, rfl⟩
theorem fX10_103 : fd9 RX10 103 8 39 2 := ⟨RX10, TX10, 44, "RewritingTerminationModel", rfl, by decide, (w9 877 (by decide +kernel) rfl), incX10, fun _ _ _ _ h => h, rfl, rfl⟩
theorem fX10_106 : fd9 RX10 106 8 41 2 := ⟨RX10, TX10, 44, "RewritingTerminationModel", rfl, by decide, (w9 879 (by decide +kernel) rfl), incX10, fun _ _ _ _ h => h, rfl, rfl⟩
theorem fX10_109 : fd9 RX10 109 8 42 2 := ⟨RX10, TX10, 44, "RewritingTerminationModel", rfl, by decide, (w9 880 (by decide +kernel) rfl), incX10, fun _ _ _ _ h => h, rfl, rfl⟩
theorem fX10_112 : fd9 RX10 112 8 43 2 := ⟨RX10, TX10, 44, "RewritingTerminationModel", rfl, by decide, (w9 881 (by decide +kernel) rfl), incX10, fun _ _ _ _ h => h, rfl, rfl⟩
theorem fX10_119 : fd9 RX10 119 8 1 0 := ⟨RX10, TX10, 44, "RewritingTerminationModel", rfl, by decide, (w9 839 (by decide +kernel) rfl), incX10, fun _ _ _ _ h => h, rfl, rfl⟩
theorem fX10_124 : fd9 RX10 124 8 11 0 := ⟨RX10, TX10, 44, "RewritingTerminationModel", rfl, by decide, (w9 849 (by decide +kernel) rfl), incX10, fun _ _ _ _ h => h, rfl, rfl⟩
theorem fX10_127 : fd9 RX10 127 8 12 0 := ⟨RX10, TX10, 44, "RewritingTerminationModel", rfl, by decide, (w9 850 (by decide +kernel) rfl), incX10, fun _ _ _ _ h => h, rfl, rfl⟩
theorem fX10_130 : fd9 RX10 130 8 6 0 := ⟨RX10, TX10, 44, "RewritingTerminationModel", rfl, by decide, (w9 844 (by decide +kernel) rfl), incX10, fun _ _ _ _ h => h, rfl, rfl⟩
theorem fX10_137 : fd9 RX10 137 8 9 0 := ⟨RX10, TX10, 44, "RewritingTerminationModel", rfl, by decide, (w9 847 (by decide +kernel) rfl), incX10, fun _ _ _ _ h => h, rfl, rfl⟩
theorem fX10_235 : fd9 RX10 235 8 40 0 := ⟨RX10, TX10, 44, "RewritingTerminationModel", rfl, by decide, (w9 878 (by decide +kernel) rfl), incX10, fun _ _ _ _ h => h, rfl, rfl⟩
theorem fX10_281 : fd9 RX10 281 8 20 0 := ⟨RX10, TX10, 44, "RewritingTerminationModel", rfl, by decide, (w9 858 (by decide +kernel) rfl), incX10, fun _ _ _ _ h => h, rfl, rfl⟩
theorem fX10_285 : fd9 RX10 285 8 21 0 := ⟨RX10, TX10, 44, "RewritingTerminationModel", rfl, by decide, (w9 859 (by decide +kernel) rfl), incX10, fun _ _ _ _ h => h, rfl, rfl⟩
theorem fX10_288 : fd9 RX10 288 8 22 0 := ⟨RX10, TX10, 44, "RewritingTerminationModel", rfl, by decide, (w9 860 (by decide +kernel) rfl), incX10, fun _ _ _ _ h => h, rfl, rfl⟩
theorem fX10_291 : fd9 RX10 291 8 27 0 := ⟨RX10, TX10, 44, "RewritingTerminationModel", rfl, by decide, (w9 865 (by decide +kernel) rfl), incX10, fun _ _ _ _ h => h, rfl, rfl⟩
theorem fX10_294 : fd9 RX10 294 8 30 0 := ⟨RX10, TX10, 44, "RewritingTerminationModel", rfl, by decide, (w9 868 (by decide +kernel) rfl), incX10, fun _ _ _ _ h => h, rfl, rfl⟩
theorem kX10_115 : lkS RX10 115 mX10_in 3 := ⟨(w9 976 (by decide +kernel) rfl), (w9 977 (by decide +kernel) rfl), (w9 44 (by decide +kernel) rfl), (w9 978 (by decide +kernel) rfl), ⟨by decide +kernel, by decide +kernel⟩, by decide +kernel, by decide⟩
theorem kX10_200 : lkS RX10 200 mX10_letterOf 3 := ⟨(w9 1164 (by decide +kernel) rfl), (w9 1165 (by decide +kernel) rfl), (w9 44 (by decide +kernel) rfl), (w9 1166 (by decide +kernel) rfl), ⟨by decide +kernel, by decide +kernel⟩, by decide +kernel, by decide⟩
theorem kX10_204 : lkS RX10 204 mX10_sizeOf 1 := ⟨(w9 1157 (by decide +kernel) rfl), (w9 1158 (by decide +kernel) rfl), (w9 44 (by decide +kernel) rfl), (w9 1159 (by decide +kernel) rfl), ⟨by decide +kernel, by decide +kernel⟩, by decide +kernel, by decide⟩
theorem kX10_214 : lkS RX10 214 mX10_with 2 := ⟨(w9 1149 (by decide +kernel) rfl), (w9 1150 (by decide +kernel) rfl), (w9 44 (by decide +kernel) rfl), (w9 1151 (by decide +kernel) rfl), ⟨by decide +kernel, by decide +kernel⟩, by decide +kernel, by decide⟩
theorem kX10_265 : lkS RX10 265 mJ9_rint_294c1 1 := ⟨(w9 1240 (by decide +kernel) rfl), (w9 1241 (by decide +kernel) rfl), (w9 48 (by decide +kernel) rfl), (w9 1242 (by decide +kernel) rfl), ⟨by decide +kernel, by decide +kernel⟩, by decide +kernel, by decide⟩
theorem kX10_275 : lkS RX10 275 mX10_isSlot 1 := ⟨(w9 1266 (by decide +kernel) rfl), (w9 1267 (by decide +kernel) rfl), (w9 44 (by decide +kernel) rfl), (w9 1268 (by decide +kernel) rfl), ⟨by decide +kernel, by decide +kernel⟩, by decide +kernel, by decide⟩
theorem kX10_140 : lkV RX10 140 8 mX10_isLetter 1 := ⟨(w9 1002 (by decide +kernel) rfl), (w9 1004 (by decide +kernel) rfl), (w9 11 (by decide +kernel) rfl), (w9 44 (by decide +kernel) rfl), (w9 1005 (by decide +kernel) rfl), ⟨by decide +kernel, by decide +kernel⟩, by decide +kernel, by decide, TX10, 44, rfl⟩
theorem kX10_144 : lkV RX10 144 8 mX10_clearInput 0 := ⟨(w9 997 (by decide +kernel) rfl), (w9 990 (by decide +kernel) rfl), (w9 991 (by decide +kernel) rfl), (w9 44 (by decide +kernel) rfl), (w9 992 (by decide +kernel) rfl), ⟨by decide +kernel, by decide +kernel⟩, by decide +kernel, by decide, TX10, 44, rfl⟩
theorem kX10_148 : lkV RX10 148 8 mX10_lettersFrom 1 := ⟨(w9 998 (by decide +kernel) rfl), (w9 1000 (by decide +kernel) rfl), (w9 10 (by decide +kernel) rfl), (w9 44 (by decide +kernel) rfl), (w9 1001 (by decide +kernel) rfl), ⟨by decide +kernel, by decide +kernel⟩, by decide +kernel, by decide, TX10, 44, rfl⟩
theorem kX10_152 : lkV RX10 152 8 mX10_isRule 1 := ⟨(w9 1010 (by decide +kernel) rfl), (w9 1012 (by decide +kernel) rfl), (w9 12 (by decide +kernel) rfl), (w9 44 (by decide +kernel) rfl), (w9 1013 (by decide +kernel) rfl), ⟨by decide +kernel, by decide +kernel⟩, by decide +kernel, by decide, TX10, 44, rfl⟩
theorem kX10_155 : lkV RX10 155 8 mX10_occurs 3 := ⟨(w9 1030 (by decide +kernel) rfl), (w9 1032 (by decide +kernel) rfl), (w9 14 (by decide +kernel) rfl), (w9 44 (by decide +kernel) rfl), (w9 1033 (by decide +kernel) rfl), ⟨by decide +kernel, by decide +kernel⟩, by decide +kernel, by decide, TX10, 44, rfl⟩
theorem kX10_159 : lkV RX10 159 8 mX10_balanceOf 2 := ⟨(w9 1026 (by decide +kernel) rfl), (w9 1028 (by decide +kernel) rfl), (w9 13 (by decide +kernel) rfl), (w9 44 (by decide +kernel) rfl), (w9 1029 (by decide +kernel) rfl), ⟨by decide +kernel, by decide +kernel⟩, by decide +kernel, by decide, TX10, 44, rfl⟩
theorem kX10_167 : lkV RX10 167 8 mX10_isGood 0 := ⟨(w9 1060 (by decide +kernel) rfl), (w9 1062 (by decide +kernel) rfl), (w9 15 (by decide +kernel) rfl), (w9 44 (by decide +kernel) rfl), (w9 1063 (by decide +kernel) rfl), ⟨by decide +kernel, by decide +kernel⟩, by decide +kernel, by decide, TX10, 44, rfl⟩
theorem kX10_171 : lkV RX10 171 8 mX10_compared 2 := ⟨(w9 1072 (by decide +kernel) rfl), (w9 1074 (by decide +kernel) rfl), (w9 17 (by decide +kernel) rfl), (w9 44 (by decide +kernel) rfl), (w9 1075 (by decide +kernel) rfl), ⟨by decide +kernel, by decide +kernel⟩, by decide +kernel, by decide, TX10, 44, rfl⟩
theorem kX10_174 : lkV RX10 174 8 mX10_sidesOf 1 := ⟨(w9 1068 (by decide +kernel) rfl), (w9 1070 (by decide +kernel) rfl), (w9 16 (by decide +kernel) rfl), (w9 44 (by decide +kernel) rfl), (w9 1071 (by decide +kernel) rfl), ⟨by decide +kernel, by decide +kernel⟩, by decide +kernel, by decide, TX10, 44, rfl⟩
theorem kX10_177 : lkV RX10 177 8 mX10_taken 0 := ⟨(w9 1080 (by decide +kernel) rfl), (w9 1082 (by decide +kernel) rfl), (w9 18 (by decide +kernel) rfl), (w9 44 (by decide +kernel) rfl), (w9 1083 (by decide +kernel) rfl), ⟨by decide +kernel, by decide +kernel⟩, by decide +kernel, by decide, TX10, 44, rfl⟩
theorem kX10_180 : lkV RX10 180 8 mX10_begin 0 := ⟨(w9 1092 (by decide +kernel) rfl), (w9 1094 (by decide +kernel) rfl), (w9 19 (by decide +kernel) rfl), (w9 44 (by decide +kernel) rfl), (w9 1095 (by decide +kernel) rfl), ⟨by decide +kernel, by decide +kernel⟩, by decide +kernel, by decide, TX10, 44, rfl⟩
theorem kX10_183 : lkV RX10 183 8 mX10_less 1 := ⟨(w9 1096 (by decide +kernel) rfl), (w9 1098 (by decide +kernel) rfl), (w9 20 (by decide +kernel) rfl), (w9 44 (by decide +kernel) rfl), (w9 1099 (by decide +kernel) rfl), ⟨by decide +kernel, by decide +kernel⟩, by decide +kernel, by decide, TX10, 44, rfl⟩
theorem kX10_186 : lkV RX10 186 8 mX10_next 2 := ⟨(w9 1100 (by decide +kernel) rfl), (w9 1102 (by decide +kernel) rfl), (w9 21 (by decide +kernel) rfl), (w9 44 (by decide +kernel) rfl), (w9 1103 (by decide +kernel) rfl), ⟨by decide +kernel, by decide +kernel⟩, by decide +kernel, by decide, TX10, 44, rfl⟩
theorem kX10_190 : lkV RX10 190 8 mX10_firstUnoriented 0 := ⟨(w9 1116 (by decide +kernel) rfl), (w9 1085 (by decide +kernel) rfl), (w9 1086 (by decide +kernel) rfl), (w9 44 (by decide +kernel) rfl), (w9 1087 (by decide +kernel) rfl), ⟨by decide +kernel, by decide +kernel⟩, by decide +kernel, by decide, TX10, 44, rfl⟩
theorem kX10_193 : lkV RX10 193 8 mX10_levels 0 := ⟨(w9 1112 (by decide +kernel) rfl), (w9 1114 (by decide +kernel) rfl), (w9 22 (by decide +kernel) rfl), (w9 44 (by decide +kernel) rfl), (w9 1115 (by decide +kernel) rfl), ⟨by decide +kernel, by decide +kernel⟩, by decide +kernel, by decide, TX10, 44, rfl⟩
theorem kX10_208 : lkV RX10 208 8 mX10_stands 4 := ⟨(w9 1160 (by decide +kernel) rfl), (w9 1162 (by decide +kernel) rfl), (w9 25 (by decide +kernel) rfl), (w9 44 (by decide +kernel) rfl), (w9 1163 (by decide +kernel) rfl), ⟨by decide +kernel, by decide +kernel⟩, by decide +kernel, by decide, TX10, 44, rfl⟩
theorem kX10_218 : lkV RX10 218 8 mX10_current 0 := ⟨(w9 1145 (by decide +kernel) rfl), (w9 1147 (by decide +kernel) rfl), (w9 23 (by decide +kernel) rfl), (w9 44 (by decide +kernel) rfl), (w9 1148 (by decide +kernel) rfl), ⟨by decide +kernel, by decide +kernel⟩, by decide +kernel, by decide, TX10, 44, rfl⟩
theorem kX10_222 : lkV RX10 222 8 mX10_stepped 3 := ⟨(w9 1153 (by decide +kernel) rfl), (w9 1155 (by decide +kernel) rfl), (w9 24 (by decide +kernel) rfl), (w9 44 (by decide +kernel) rfl), (w9 1156 (by decide +kernel) rfl), ⟨by decide +kernel, by decide +kernel⟩, by decide +kernel, by decide, TX10, 44, rfl⟩
theorem kX10_226 : lkV RX10 226 8 mX10_becomes 1 := ⟨(w9 1169 (by decide +kernel) rfl), (w9 1171 (by decide +kernel) rfl), (w9 26 (by decide +kernel) rfl), (w9 44 (by decide +kernel) rfl), (w9 1172 (by decide +kernel) rfl), ⟨by decide +kernel, by decide +kernel⟩, by decide +kernel, by decide, TX10, 44, rfl⟩
theorem kX10_232 : lkV RX10 232 8 mX10_steps 0 := ⟨(w9 1178 (by decide +kernel) rfl), (w9 1180 (by decide +kernel) rfl), (w9 27 (by decide +kernel) rfl), (w9 44 (by decide +kernel) rfl), (w9 1181 (by decide +kernel) rfl), ⟨by decide +kernel, by decide +kernel⟩, by decide +kernel, by decide, TX10, 44, rfl⟩
theorem kX10_238 : lkV RX10 238 8 mX10_placeOf 1 := ⟨(w9 1186 (by decide +kernel) rfl), (w9 1188 (by decide +kernel) rfl), (w9 28 (by decide +kernel) rfl), (w9 44 (by decide +kernel) rfl), (w9 1189 (by decide +kernel) rfl), ⟨by decide +kernel, by decide +kernel⟩, by decide +kernel, by decide, TX10, 44, rfl⟩
theorem kX10_241 : lkV RX10 241 8 mX10_deepestOf 0 := ⟨(w9 1190 (by decide +kernel) rfl), (w9 1192 (by decide +kernel) rfl), (w9 29 (by decide +kernel) rfl), (w9 44 (by decide +kernel) rfl), (w9 1193 (by decide +kernel) rfl), ⟨by decide +kernel, by decide +kernel⟩, by decide +kernel, by decide, TX10, 44, rfl⟩
theorem kX10_244 : lkV RX10 244 8 mX10_contains 2 := ⟨(w9 1198 (by decide +kernel) rfl), (w9 1200 (by decide +kernel) rfl), (w9 30 (by decide +kernel) rfl), (w9 44 (by decide +kernel) rfl), (w9 1201 (by decide +kernel) rfl), ⟨by decide +kernel, by decide +kernel⟩, by decide +kernel, by decide, TX10, 44, rfl⟩
theorem kX10_248 : lkV RX10 248 8 mX10_loops 3 := ⟨(w9 1202 (by decide +kernel) rfl), (w9 1204 (by decide +kernel) rfl), (w9 31 (by decide +kernel) rfl), (w9 44 (by decide +kernel) rfl), (w9 1205 (by decide +kernel) rfl), ⟨by decide +kernel, by decide +kernel⟩, by decide +kernel, by decide, TX10, 44, rfl⟩
theorem kX10_253 : lkV RX10 253 8 mX10_marginOf 1 := ⟨(w9 1215 (by decide +kernel) rfl), (w9 1217 (by decide +kernel) rfl), (w9 32 (by decide +kernel) rfl), (w9 44 (by decide +kernel) rfl), (w9 1218 (by decide +kernel) rfl), ⟨by decide +kernel, by decide +kernel⟩, by decide +kernel, by decide, TX10, 44, rfl⟩
theorem kX10_278 : lkV RX10 278 8 mX10_isPlace 2 := ⟨(w9 1278 (by decide +kernel) rfl), (w9 1280 (by decide +kernel) rfl), (w9 33 (by decide +kernel) rfl), (w9 44 (by decide +kernel) rfl), (w9 1281 (by decide +kernel) rfl), ⟨by decide +kernel, by decide +kernel⟩, by decide +kernel, by decide, TX10, 44, rfl⟩
theorem wX10_122 : Cond.constantLong RX10 122 (lI (6)) ∈ lw_w := (w9 975 (by decide +kernel) rfl)
theorem wX10_133 : Cond.constantLong RX10 133 (lI (127)) ∈ lw_w := (w9 987 (by decide +kernel) rfl)
theorem wX10_135 : Cond.constantLong RX10 135 (lI (40)) ∈ lw_w := (w9 988 (by decide +kernel) rfl)
theorem wX10_163 : Cond.constantLong RX10 163 (lI (99)) ∈ lw_w := (w9 1038 (by decide +kernel) rfl)
theorem wX10_165 : Cond.constantLong RX10 165 (lI (9)) ∈ lw_w := (w9 1047 (by decide +kernel) rfl)
theorem wX10_196 : Cond.constantLong RX10 196 (lI (7)) ∈ lw_w := (w9 1167 (by decide +kernel) rfl)
theorem wX10_198 : Cond.constantLong RX10 198 (lI (8)) ∈ lw_w := (w9 1152 (by decide +kernel) rfl)
theorem wX10_212 : Cond.constantLong RX10 212 (lI (-1)) ∈ lw_w := (w9 1168 (by decide +kernel) rfl)
theorem wX10_230 : Cond.constantLong RX10 230 (lI (1000)) ∈ lw_w := (w9 1177 (by decide +kernel) rfl)
theorem wX10_251 : Cond.constantLong RX10 251 (lI (100)) ∈ lw_w := (w9 1214 (by decide +kernel) rfl)
theorem wX10_259 : Cond.constantLong RX10 259 (lI (1000000)) ∈ lw_w := (w9 1225 (by decide +kernel) rfl)
theorem wX10_261 : Cond.constantDouble RX10 261 4696837146684686336 ∈ lw_w := (w9 1230 (by decide +kernel) rfl)
theorem wX10_263 : Cond.constantLong RX10 263 (lI (-9223372036854775808)) ∈ lw_w := (w9 1231 (by decide +kernel) rfl)
theorem wX10_271 : Cond.constantDouble RX10 271 4636666922610458624 ∈ lw_w := (w9 1261 (by decide +kernel) rfl)
theorem wX10_273 : Cond.constantLong RX10 273 (lI (3)) ∈ lw_w := (w9 1269 (by decide +kernel) rfl)
theorem wX10_257 : Cond.constantFloat RX10 257 1056964608 ∈ lw_w := (w9 1219 (by decide +kernel) rfl)
theorem wX10_258 : Cond.constantFloat RX10 258 1040187392 ∈ lw_w := (w9 1220 (by decide +kernel) rfl)
theorem pfX10_9 : fp9 RX10 9 8 0 0 .int := ⟨fX10_9, tyX10, fun _ _ _ h => by cases h; exact tyX10_ok, fun _ _ _ h => by cases h; exact nmX10, fun _ _ _ h => by cases h; rfl, fun _ _ _ h => by cases h; decide +kernel⟩
theorem pfX10_119 : fp9 RX10 119 8 1 0 .int := ⟨fX10_119, tyX10, fun _ _ _ h => by cases h; exact tyX10_ok, fun _ _ _ h => by cases h; exact nmX10, fun _ _ _ h => by cases h; rfl, fun _ _ _ h => by cases h; decide +kernel⟩
theorem pfX10_124 : fp9 RX10 124 8 11 0 .int := ⟨fX10_124, tyX10, fun _ _ _ h => by cases h; exact tyX10_ok, fun _ _ _ h => by cases h; exact nmX10, fun _ _ _ h => by cases h; rfl, fun _ _ _ h => by cases h; decide +kernel⟩
theorem pfX10_127 : fp9 RX10 127 8 12 0 .int := ⟨fX10_127, tyX10, fun _ _ _ h => by cases h; exact tyX10_ok, fun _ _ _ h => by cases h; exact nmX10, fun _ _ _ h => by cases h; rfl, fun _ _ _ h => by cases h; decide +kernel⟩
theorem pfX10_130 : fp9 RX10 130 8 6 0 .int := ⟨fX10_130, tyX10, fun _ _ _ h => by cases h; exact tyX10_ok, fun _ _ _ h => by cases h; exact nmX10, fun _ _ _ h => by cases h; rfl, fun _ _ _ h => by cases h; decide +kernel⟩
theorem pfX10_137 : fp9 RX10 137 8 9 0 .int := ⟨fX10_137, tyX10, fun _ _ _ h => by cases h; exact tyX10_ok, fun _ _ _ h => by cases h; exact nmX10, fun _ _ _ h => by cases h; rfl, fun _ _ _ h => by cases h; decide +kernel⟩
theorem pfX10_235 : fp9 RX10 235 8 40 0 .int := ⟨fX10_235, tyX10, fun _ _ _ h => by cases h; exact tyX10_ok, fun _ _ _ h => by cases h; exact nmX10, fun _ _ _ h => by cases h; rfl, fun _ _ _ h => by cases h; decide +kernel⟩
theorem pfX10_281 : fp9 RX10 281 8 20 0 .boolean := ⟨fX10_281, tyX10, fun _ _ _ h => by cases h; exact tyX10_ok, fun _ _ _ h => by cases h; exact nmX10, fun _ _ _ h => by cases h; rfl, fun _ _ _ h => by cases h; decide +kernel⟩
theorem pfX10_285 : fp9 RX10 285 8 21 0 .int := ⟨fX10_285, tyX10, fun _ _ _ h => by cases h; exact tyX10_ok, fun _ _ _ h => by cases h; exact nmX10, fun _ _ _ h => by cases h; rfl, fun _ _ _ h => by cases h; decide +kernel⟩
theorem pfX10_288 : fp9 RX10 288 8 22 0 .int := ⟨fX10_288, tyX10, fun _ _ _ h => by cases h; exact tyX10_ok, fun _ _ _ h => by cases h; exact nmX10, fun _ _ _ h => by cases h; rfl, fun _ _ _ h => by cases h; decide +kernel⟩
theorem pfX10_291 : fp9 RX10 291 8 27 0 .int := ⟨fX10_291, tyX10, fun _ _ _ h => by cases h; exact tyX10_ok, fun _ _ _ h => by cases h; exact nmX10, fun _ _ _ h => by cases h; rfl, fun _ _ _ h => by cases h; decide +kernel⟩
theorem pfX10_294 : fp9 RX10 294 8 30 0 .int := ⟨fX10_294, tyX10, fun _ _ _ h => by cases h; exact tyX10_ok, fun _ _ _ h => by cases h; exact nmX10, fun _ _ _ h => by cases h; rfl, fun _ _ _ h => by cases h; decide +kernel⟩
theorem kJ9_59 : lkS RJ9 59 mJxfc994_rint_294c1 1 := ⟨(w9 1243 (by decide +kernel) rfl), (w9 1244 (by decide +kernel) rfl), (w9 49 (by decide +kernel) rfl), (w9 1245 (by decide +kernel) rfl), ⟨by decide +kernel, by decide +kernel⟩, by decide +kernel, by decide⟩
theorem wJ9_128 : Cond.constantLong RJ9 128 (lI (-9223372036854775808)) ∈ lw_w := (w9 1253 (by decide +kernel) rfl)
theorem wJ9_135 : Cond.constantLong RJ9 135 (lI (9223372036854775807)) ∈ lw_w := (w9 1254 (by decide +kernel) rfl)
theorem kJxfc994_95 : lkS RJxfc994 95 mJ9_copySign_eb370 2 := ⟨(w9 1247 (by decide +kernel) rfl), (w9 1248 (by decide +kernel) rfl), (w9 48 (by decide +kernel) rfl), (w9 1249 (by decide +kernel) rfl), ⟨by decide +kernel, by decide +kernel⟩, by decide +kernel, by decide⟩
theorem kJxfc994_98 : lkS RJxfc994 98 mJ9_abs_294c1 1 := ⟨(w9 1258 (by decide +kernel) rfl), (w9 1259 (by decide +kernel) rfl), (w9 48 (by decide +kernel) rfl), (w9 1260 (by decide +kernel) rfl), ⟨by decide +kernel, by decide +kernel⟩, by decide +kernel, by decide⟩
theorem wJxfc994_93 : Cond.constantDouble RJxfc994 93 4841369599423283200 ∈ lw_w := (w9 1246 (by decide +kernel) rfl)
theorem s_0 : sh9 0 0 7 := ⟨by decide, rfl, by decide⟩
theorem s_1 : sh9 1 0 5 := ⟨by decide, rfl, by decide⟩
theorem s_2 : sh9 2 2 8 := ⟨by decide, rfl, by decide⟩
theorem s_3 : sh9 3 2 8 := ⟨by decide, rfl, by decide⟩
theorem s_4 : sh9 4 7 8 := ⟨by decide, rfl, by decide⟩
theorem s_5 : sh9 5 1 8 := ⟨by decide, rfl, by decide⟩
theorem s_6 : sh9 6 1 8 := ⟨by decide, rfl, by decide⟩
theorem s_7 : sh9 7 1 8 := ⟨by decide, rfl, by decide⟩
theorem s_8 : sh9 8 1 8 := ⟨by decide, rfl, by decide⟩
theorem s_9 : sh9 9 1 8 := ⟨by decide, rfl, by decide⟩
theorem s_10 : sh9 10 1 8 := ⟨by decide, rfl, by decide⟩
theorem s_11 : sh9 11 1 8 := ⟨by decide, rfl, by decide⟩
theorem s_12 : sh9 12 1 8 := ⟨by decide, rfl, by decide⟩
theorem s_13 : sh9 13 1 8 := ⟨by decide, rfl, by decide⟩
theorem s_14 : sh9 14 1 8 := ⟨by decide, rfl, by decide⟩
theorem s_15 : sh9 15 3 8 := ⟨by decide, rfl, by decide⟩
theorem s_16 : sh9 16 0 5 := ⟨by decide, rfl, by decide⟩
theorem s_17 : sh9 17 2 8 := ⟨by decide, rfl, by decide⟩
theorem s_18 : sh9 18 2 8 := ⟨by decide, rfl, by decide⟩
theorem s_19 : sh9 19 7 8 := ⟨by decide, rfl, by decide⟩
theorem s_20 : sh9 20 1 8 := ⟨by decide, rfl, by decide⟩
theorem s_21 : sh9 21 1 8 := ⟨by decide, rfl, by decide⟩
theorem s_22 : sh9 22 1 8 := ⟨by decide, rfl, by decide⟩
theorem s_23 : sh9 23 1 8 := ⟨by decide, rfl, by decide⟩
theorem s_24 : sh9 24 1 8 := ⟨by decide, rfl, by decide⟩
theorem s_25 : sh9 25 1 8 := ⟨by decide, rfl, by decide⟩
theorem s_26 : sh9 26 1 8 := ⟨by decide, rfl, by decide⟩
theorem s_27 : sh9 27 1 8 := ⟨by decide, rfl, by decide⟩
theorem s_28 : sh9 28 1 8 := ⟨by decide, rfl, by decide⟩
theorem s_29 : sh9 29 1 8 := ⟨by decide, rfl, by decide⟩
theorem s_30 : sh9 30 3 8 := ⟨by decide, rfl, by decide⟩
theorem s_31 : sh9 31 0 1 := ⟨by decide, rfl, by decide⟩
theorem s_32 : sh9 32 5 40 := ⟨by decide, rfl, by decide⟩
theorem s_33 : sh9 33 0 4 := ⟨by decide, rfl, by decide⟩
theorem s_34 : sh9 34 1 200 := ⟨by decide, rfl, by decide⟩
theorem s_35 : sh9 35 1 200 := ⟨by decide, rfl, by decide⟩
theorem s_36 : sh9 36 0 0 := ⟨by decide, rfl, by decide⟩
theorem s_37 : sh9 37 2 200 := ⟨by decide, rfl, by decide⟩
theorem s_38 : sh9 38 1 512 := ⟨by decide, rfl, by decide⟩
theorem s_39 : sh9 39 1 200 := ⟨by decide, rfl, by decide⟩
theorem s_40 : sh9 40 1 200 := ⟨by decide, rfl, by decide⟩
theorem s_41 : sh9 41 1 200 := ⟨by decide, rfl, by decide⟩
theorem s_42 : sh9 42 1 200 := ⟨by decide, rfl, by decide⟩
theorem s_43 : sh9 43 1 200 := ⟨by decide, rfl, by decide⟩
theorem s_44 : sh9 44 1 200 := ⟨by decide, rfl, by decide⟩
theorem s_45 : sh9 45 0 3 := ⟨by decide, rfl, by decide⟩
theorem s_46 : sh9 46 1 8 := ⟨by decide, rfl, by decide⟩
theorem s_47 : sh9 47 7 8 := ⟨by decide, rfl, by decide⟩
theorem s_48 : sh9 48 1 8 := ⟨by decide, rfl, by decide⟩
theorem s_49 : sh9 49 1 8 := ⟨by decide, rfl, by decide⟩
theorem s_50 : sh9 50 1 8 := ⟨by decide, rfl, by decide⟩
theorem s_51 : sh9 51 1 8 := ⟨by decide, rfl, by decide⟩
theorem s_52 : sh9 52 1 8 := ⟨by decide, rfl, by decide⟩
theorem s_53 : sh9 53 1 8 := ⟨by decide, rfl, by decide⟩
theorem s_54 : sh9 54 1 8 := ⟨by decide, rfl, by decide⟩
theorem s_55 : sh9 55 1 8 := ⟨by decide, rfl, by decide⟩
theorem s_56 : sh9 56 7 8 := ⟨by decide, rfl, by decide⟩
theorem s_57 : sh9 57 1 9 := ⟨by decide, rfl, by decide⟩
theorem s_58 : sh9 58 1 9 := ⟨by decide, rfl, by decide⟩
theorem s_59 : sh9 59 1 9 := ⟨by decide, rfl, by decide⟩
theorem s_60 : sh9 60 1 9 := ⟨by decide, rfl, by decide⟩
theorem s_61 : sh9 61 1 9 := ⟨by decide, rfl, by decide⟩
theorem s_62 : sh9 62 1 9 := ⟨by decide, rfl, by decide⟩
theorem s_63 : sh9 63 1 9 := ⟨by decide, rfl, by decide⟩
theorem s_64 : sh9 64 1 9 := ⟨by decide, rfl, by decide⟩
theorem s_65 : sh9 65 7 9 := ⟨by decide, rfl, by decide⟩
theorem s_66 : sh9 66 1 8 := ⟨by decide, rfl, by decide⟩
theorem s_67 : sh9 67 1 8 := ⟨by decide, rfl, by decide⟩
theorem s_68 : sh9 68 1 8 := ⟨by decide, rfl, by decide⟩
theorem s_69 : sh9 69 1 8 := ⟨by decide, rfl, by decide⟩
theorem s_70 : sh9 70 1 8 := ⟨by decide, rfl, by decide⟩
theorem s_71 : sh9 71 1 8 := ⟨by decide, rfl, by decide⟩
theorem s_72 : sh9 72 1 8 := ⟨by decide, rfl, by decide⟩
theorem s_73 : sh9 73 1 8 := ⟨by decide, rfl, by decide⟩
theorem s_74 : sh9 74 1 8 := ⟨by decide, rfl, by decide⟩
theorem s_75 : sh9 75 0 2 := ⟨by decide, rfl, by decide⟩
theorem s_76 : sh9 76 1 8 := ⟨by decide, rfl, by decide⟩
theorem s_77 : sh9 77 2 8 := ⟨by decide, rfl, by decide⟩
theorem s_78 : sh9 78 2 8 := ⟨by decide, rfl, by decide⟩
theorem s_79 : sh9 79 1 8 := ⟨by decide, rfl, by decide⟩
theorem s_80 : sh9 80 6 4 := ⟨by decide, rfl, by decide⟩
theorem s_81 : sh9 81 0 6 := ⟨by decide, rfl, by decide⟩
theorem s_82 : sh9 82 2 40 := ⟨by decide, rfl, by decide⟩
theorem s_83 : sh9 83 3 40 := ⟨by decide, rfl, by decide⟩
theorem s_84 : sh9 84 4 40 := ⟨by decide, rfl, by decide⟩
theorem s_85 : sh9 85 0 6 := ⟨by decide, rfl, by decide⟩
theorem s_86 : sh9 86 2 40 := ⟨by decide, rfl, by decide⟩
theorem s_87 : sh9 87 3 40 := ⟨by decide, rfl, by decide⟩
theorem s_88 : sh9 88 4 40 := ⟨by decide, rfl, by decide⟩
theorem s_89 : sh9 89 0 6 := ⟨by decide, rfl, by decide⟩
theorem s_90 : sh9 90 2 40 := ⟨by decide, rfl, by decide⟩
theorem s_91 : sh9 91 3 40 := ⟨by decide, rfl, by decide⟩
theorem s_92 : sh9 92 4 40 := ⟨by decide, rfl, by decide⟩
theorem s_93 : sh9 93 0 6 := ⟨by decide, rfl, by decide⟩
theorem s_94 : sh9 94 2 40 := ⟨by decide, rfl, by decide⟩
theorem s_95 : sh9 95 3 40 := ⟨by decide, rfl, by decide⟩
theorem s_96 : sh9 96 4 40 := ⟨by decide, rfl, by decide⟩
theorem s_97 : sh9 97 0 8 := ⟨by decide, rfl, by decide⟩
theorem s_98 : sh9 98 1 16 := ⟨by decide, rfl, by decide⟩
theorem s_99 : sh9 99 1 96 := ⟨by decide, rfl, by decide⟩
theorem s_100 : sh9 100 1 6 := ⟨by decide, rfl, by decide⟩
theorem s_101 : sh9 101 1 6 := ⟨by decide, rfl, by decide⟩
theorem s_102 : sh9 102 3 6 := ⟨by decide, rfl, by decide⟩
theorem s_103 : sh9 103 1 40 := ⟨by decide, rfl, by decide⟩
theorem s_104 : sh9 104 1 12 := ⟨by decide, rfl, by decide⟩
theorem s_105 : sh9 105 1 201 := ⟨by decide, rfl, by decide⟩
theorem s_106 : sh9 106 1 201 := ⟨by decide, rfl, by decide⟩
theorem s_107 : sh9 107 1 4 := ⟨by decide, rfl, by decide⟩
theorem s_108 : sh9 108 1 4 := ⟨by decide, rfl, by decide⟩
theorem s_109 : sh9 109 2 160 := ⟨by decide, rfl, by decide⟩
theorem s_110 : sh9 110 3 160 := ⟨by decide, rfl, by decide⟩
theorem s_111 : sh9 111 4 160 := ⟨by decide, rfl, by decide⟩
theorem s_112 : sh9 112 1 16 := ⟨by decide, rfl, by decide⟩
theorem s_113 : sh9 113 1 96 := ⟨by decide, rfl, by decide⟩
theorem s_114 : sh9 114 1 6 := ⟨by decide, rfl, by decide⟩
theorem s_115 : sh9 115 1 6 := ⟨by decide, rfl, by decide⟩
theorem s_116 : sh9 116 3 6 := ⟨by decide, rfl, by decide⟩
theorem s_117 : sh9 117 1 12 := ⟨by decide, rfl, by decide⟩
theorem s_118 : sh9 118 1 40 := ⟨by decide, rfl, by decide⟩
theorem s_119 : sh9 119 1 40 := ⟨by decide, rfl, by decide⟩
theorem s_120 : sh9 120 1 8 := ⟨by decide, rfl, by decide⟩
theorem s_121 : sh9 121 1 6 := ⟨by decide, rfl, by decide⟩
theorem s_122 : sh9 122 1 6 := ⟨by decide, rfl, by decide⟩
theorem s_123 : sh9 123 2 200 := ⟨by decide, rfl, by decide⟩
theorem s_124 : sh9 124 1 200 := ⟨by decide, rfl, by decide⟩
theorem s_125 : sh9 125 1 200 := ⟨by decide, rfl, by decide⟩
theorem s_126 : sh9 126 1 200 := ⟨by decide, rfl, by decide⟩
theorem s_127 : sh9 127 1 200 := ⟨by decide, rfl, by decide⟩
theorem s_128 : sh9 128 1 19200 := ⟨by decide, rfl, by decide⟩
theorem s_129 : sh9 129 1 200 := ⟨by decide, rfl, by decide⟩

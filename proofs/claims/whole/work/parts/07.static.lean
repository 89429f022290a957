/-! what the instructions' entries say (written by wip/whole/gen/st.py) -/
abbrev m_X0_init : ev_M := (yX0_init, cX0_init, 1, none)
abbrev m_X0_forget : ev_M := (yX0_forget, cX0_forget, 1, none)
abbrev m_X0_isFull : ev_M := (yX0_isFull, cX0_isFull, 1, (some .boolean))
abbrev m_X0_wasArranged : ev_M := (yX0_wasArranged, cX0_wasArranged, 2, (some .boolean))
abbrev m_X0_note : ev_M := (yX0_note, cX0_note, 6, (some .int))
abbrev m_X0_isBefore : ev_M := (yX0_isBefore, cX0_isBefore, 3, (some .boolean))
abbrev m_X0_arrange : ev_M := (yX0_arrange, cX0_arrange, 3, none)
abbrev m_X7_init : ev_M := (yX7_init, cX7_init, 1, none)
abbrev m_X1_init : ev_M := (yX1_init, cX1_init, 1, none)
abbrev m_X1_commonDivisor : ev_M := (yX1_commonDivisor, cX1_commonDivisor, 11, (some .long))
abbrev m_X7_clear : ev_M := (yX7_clear, cX7_clear, 2, none)
abbrev m_X7_trim : ev_M := (yX7_trim, cX7_trim, 2, none)
abbrev m_X7_setProduct : ev_M := (yX7_setProduct, cX7_setProduct, 9, none)
abbrev m_X7_copy : ev_M := (yX7_copy, cX7_copy, 2, none)
abbrev m_X1_multiply : ev_M := (yX1_multiply, cX1_multiply, 3, none)
abbrev m_X7_become : ev_M := (yX7_become, cX7_become, 3, none)
abbrev m_X1_scale : ev_M := (yX1_scale, cX1_scale, 4, none)
abbrev m_X7_isZero : ev_M := (yX7_isZero, cX7_isZero, 1, (some .boolean))
abbrev m_J6_compare_7cf53 : ev_M := (yJ6_compare_7cf53, cJ6_compare_7cf53, 2, (some .int))
abbrev m_X7_compareWith : ev_M := (yX7_compareWith, cX7_compareWith, 3, (some .int))
abbrev m_X7_divideBySmall : ev_M := (yX7_divideBySmall, cX7_divideBySmall, 7, (some .int))
abbrev m_X7_freeBits : ev_M := (yX7_freeBits, cX7_freeBits, 2, (some .int))
abbrev m_X7_shiftUp : ev_M := (yX7_shiftUp, cX7_shiftUp, 8, none)
abbrev m_X7_digitAt : ev_M := (yX7_digitAt, cX7_digitAt, 2, (some .int))
abbrev m_X7_guessDigit : ev_M := (yX7_guessDigit, cX7_guessDigit, 13, (some .int))
abbrev m_X7_subtractAt : ev_M := (yX7_subtractAt, cX7_subtractAt, 10, (some .boolean))
abbrev m_X7_addAt : ev_M := (yX7_addAt, cX7_addAt, 7, none)
abbrev m_X7_shiftDown : ev_M := (yX7_shiftDown, cX7_shiftDown, 9, none)
abbrev m_X1_divide : ev_M := (yX1_divide, cX1_divide, 7, none)
abbrev m_X7_isShort : ev_M := (yX7_isShort, cX7_isShort, 1, (some .boolean))
abbrev m_X7_asLong : ev_M := (yX7_asLong, cX7_asLong, 1, (some .long))
abbrev m_X7_isOne : ev_M := (yX7_isOne, cX7_isOne, 1, (some .boolean))
abbrev m_X1_cancel : ev_M := (yX1_cancel, cX1_cancel, 7, none)
abbrev m_X2_become : ev_M := (yX2_become, cX2_become, 5, none)
abbrev m_X5_isMember : ev_M := (yX5_isMember, cX5_isMember, 2, (some .boolean))
abbrev m_X5_plainWorth : ev_M := (yX5_plainWorth, cX5_plainWorth, 2, (some .long))
abbrev m_X7_add : ev_M := (yX7_add, cX7_add, 6, none)
abbrev m_X1_addTo : ev_M := (yX1_addTo, cX1_addTo, 12, none)
abbrev m_X1_addUp : ev_M := (yX1_addUp, cX1_addUp, 4, none)
abbrev m_X1_weigh : ev_M := (yX1_weigh, cX1_weigh, 6, none)
abbrev m_X1_sameLevel : ev_M := (yX1_sameLevel, cX1_sameLevel, 5, (some .boolean))
abbrev m_X2_init : ev_M := (yX2_init, cX2_init, 1, none)
abbrev m_X2_copy : ev_M := (yX2_copy, cX2_copy, 2, none)
abbrev m_X7_binaryDigits : ev_M := (yX7_binaryDigits, cX7_binaryDigits, 1, (some .int))
abbrev m_X2_mostDigits : ev_M := (yX2_mostDigits, cX2_mostDigits, 1, (some .int))
abbrev m_J7_fill_53178 : ev_M := (yJ7_fill_53178, cJ7_fill_53178, 4, none)
abbrev m_J7_fill_d0a16 : ev_M := (yJ7_fill_d0a16, cJ7_fill_d0a16, 5, none)
abbrev m_X5_resetFactors : ev_M := (yX5_resetFactors, cX5_resetFactors, 1, none)
abbrev m_X5_init : ev_M := (yX5_init, cX5_init, 2, none)
abbrev m_X5_has : ev_M := (yX5_has, cX5_has, 1, (some .boolean))
abbrev m_X5_fits : ev_M := (yX5_fits, cX5_fits, 3, (some .boolean))
abbrev m_X5_hasFactorOne : ev_M := (yX5_hasFactorOne, cX5_hasFactorOne, 2, (some .boolean))
abbrev m_X5_copy : ev_M := (yX5_copy, cX5_copy, 3, none)
abbrev m_X5_isRatio : ev_M := (yX5_isRatio, cX5_isRatio, 2, (some .boolean))
abbrev m_X5_exchange : ev_M := (yX5_exchange, cX5_exchange, 12, (some .int))
abbrev m_X5_split : ev_M := (yX5_split, cX5_split, 8, (some .int))
abbrev m_X5_offerRights : ev_M := (yX5_offerRights, cX5_offerRights, 11, (some .int))
abbrev m_X5_payDividend : ev_M := (yX5_payDividend, cX5_payDividend, 5, (some .int))
abbrev m_J6_bitCount_0f7a4 : ev_M := (yJ6_bitCount_0f7a4, cJ6_bitCount_0f7a4, 1, (some .int))
abbrev m_X5_leave : ev_M := (yX5_leave, cX5_leave, 2, (some .int))
abbrev m_X5_join : ev_M := (yX5_join, cX5_join, 2, (some .int))
abbrev m_X5_replace : ev_M := (yX5_replace, cX5_replace, 4, (some .int))
abbrev m_X5_plainWorthOf : ev_M := (yX5_plainWorthOf, cX5_plainWorthOf, 5, (some .long))
abbrev m_X5_findLarge : ev_M := (yX5_findLarge, cX5_findLarge, 11, (some .int))
abbrev m_X5_putFactor : ev_M := (yX5_putFactor, cX5_putFactor, 8, none)
abbrev m_X5_cap : ev_M := (yX5_cap, cX5_cap, 9, (some .int))
abbrev m_X5_change : ev_M := (yX5_change, cX5_change, 6, (some .int))
abbrev m_X6_init : ev_M := (yX6_init, cX6_init, 1, none)
abbrev m_X6_append : ev_M := (yX6_append, cX6_append, 2, none)
abbrev m_X6_writeBackwards : ev_M := (yX6_writeBackwards, cX6_writeBackwards, 5, none)
abbrev m_X6_turnRound : ev_M := (yX6_turnRound, cX6_turnRound, 5, none)
abbrev m_X6_writeWhole : ev_M := (yX6_writeWhole, cX6_writeWhole, 5, none)
abbrev m_X6_write : ev_M := (yX6_write, cX6_write, 2, none)
abbrev m_X8_init : ev_M := (yX8_init, cX8_init, 1, none)
abbrev m_X8_refuseUnknown : ev_M := (yX8_refuseUnknown, cX8_refuseUnknown, 2, none)
abbrev m_X8_set : ev_M := (yX8_set, cX8_set, 5, (some .int))
abbrev m_X8_get : ev_M := (yX8_get, cX8_get, 3, (some .int))
abbrev m_X8_base : ev_M := (yX8_base, cX8_base, 3, none)
abbrev m_X8_members : ev_M := (yX8_members, cX8_members, 1, (some .int))
abbrev m_X8_event : ev_M := (yX8_event, cX8_event, 7, (some .int))
abbrev m_X8_findNextDivisor : ev_M := (yX8_findNextDivisor, cX8_findNextDivisor, 1, none)
abbrev m_X8_isCapped : ev_M := (yX8_isCapped, cX8_isCapped, 5, (some .boolean))
abbrev m_X8_perform : ev_M := (yX8_perform, cX8_perform, 6, (some .int))
abbrev m_X8_exactLevel : ev_M := (yX8_exactLevel, cX8_exactLevel, 1, none)
abbrev m_X8_roundedLevel : ev_M := (yX8_roundedLevel, cX8_roundedLevel, 1, (some .long))
abbrev m_X8_close : ev_M := (yX8_close, cX8_close, 3, (some .int))
abbrev m_X8_outcome : ev_M := (yX8_outcome, cX8_outcome, 2, (some .int))
abbrev m_X8_noted : ev_M := (yX8_noted, cX8_noted, 2, (some .int))
abbrev m_X8_days : ev_M := (yX8_days, cX8_days, 1, (some .int))
abbrev m_X8_published : ev_M := (yX8_published, cX8_published, 2, (some .long))
abbrev m_X8_level : ev_M := (yX8_level, cX8_level, 1, (some .long))
abbrev m_X8_weight : ev_M := (yX8_weight, cX8_weight, 2, (some .int))
abbrev m_X8_print : ev_M := (yX8_print, cX8_print, 4, (some .int))
abbrev m_X8_character : ev_M := (yX8_character, cX8_character, 2, (some .int))
abbrev m_X8_places : ev_M := (yX8_places, cX8_places, 2, (some .int))
abbrev m_X8_check : ev_M := (yX8_check, cX8_check, 1, (some .int))
abbrev m_X9_set : ev_M := (yX9_set, cX9_set, 6, none)
abbrev m_X9_init : ev_M := (yX9_init, cX9_init, 2, none)
abbrev m_X9_thrown : ev_M := (yX9_thrown, cX9_thrown, 1, (some .int))
abbrev m_X9_in : ev_M := (yX9_in, cX9_in, 3, (some .boolean))
abbrev m_X9_isMember : ev_M := (yX9_isMember, cX9_isMember, 2, (some .boolean))
abbrev m_X9_copy : ev_M := (yX9_copy, cX9_copy, 4, none)
abbrev m_X9_trim : ev_M := (yX9_trim, cX9_trim, 2, none)
abbrev m_X9_isOne : ev_M := (yX9_isOne, cX9_isOne, 2, (some .boolean))
abbrev m_X9_isEven : ev_M := (yX9_isEven, cX9_isEven, 2, (some .boolean))
abbrev m_X9_bits : ev_M := (yX9_bits, cX9_bits, 4, (some .int))
abbrev m_X9_limb : ev_M := (yX9_limb, cX9_limb, 3, (some .int))
abbrev m_X9_add : ev_M := (yX9_add, cX9_add, 7, none)
abbrev m_X9_compare : ev_M := (yX9_compare, cX9_compare, 4, (some .int))
abbrev m_X9_multiply : ev_M := (yX9_multiply, cX9_multiply, 11, none)
abbrev m_X9_scale : ev_M := (yX9_scale, cX9_scale, 8, none)
abbrev m_X9_divide : ev_M := (yX9_divide, cX9_divide, 8, (some .int))
abbrev m_X9_twice : ev_M := (yX9_twice, cX9_twice, 6, none)
abbrev m_X9_subtract : ev_M := (yX9_subtract, cX9_subtract, 6, none)
abbrev m_X9_half : ev_M := (yX9_half, cX9_half, 5, none)
abbrev m_X9_quotient : ev_M := (yX9_quotient, cX9_quotient, 7, none)
abbrev m_X9_swap : ev_M := (yX9_swap, cX9_swap, 1, none)
abbrev m_X9_common : ev_M := (yX9_common, cX9_common, 5, none)
abbrev m_X9_reduce : ev_M := (yX9_reduce, cX9_reduce, 3, none)
abbrev m_X9_plain : ev_M := (yX9_plain, cX9_plain, 2, (some .long))
abbrev m_X9_sum : ev_M := (yX9_sum, cX9_sum, 2, none)
abbrev m_X9_fits : ev_M := (yX9_fits, cX9_fits, 2, (some .boolean))
abbrev m_X9_set_ : ev_M := (yX9_set_, cX9_set_, 4, (some .int))
abbrev m_X9_get : ev_M := (yX9_get, cX9_get, 3, (some .int))
abbrev m_X9_base : ev_M := (yX9_base, cX9_base, 4, none)
abbrev m_X9_members : ev_M := (yX9_members, cX9_members, 1, (some .int))
abbrev m_X9_event : ev_M := (yX9_event, cX9_event, 6, (some .int))
abbrev m_X9_remember : ev_M := (yX9_remember, cX9_remember, 2, none)
abbrev m_X9_putBack : ev_M := (yX9_putBack, cX9_putBack, 2, none)
abbrev m_X9_become : ev_M := (yX9_become, cX9_become, 7, (some .int))
abbrev m_X9_rounded : ev_M := (yX9_rounded, cX9_rounded, 4, (some .long))
abbrev m_X9_split : ev_M := (yX9_split, cX9_split, 4, (some .int))
abbrev m_X9_rights : ev_M := (yX9_rights, cX9_rights, 5, (some .int))
abbrev m_X9_dividend : ev_M := (yX9_dividend, cX9_dividend, 3, (some .int))
abbrev m_X9_count : ev_M := (yX9_count, cX9_count, 4, (some .int))
abbrev m_X9_cap : ev_M := (yX9_cap, cX9_cap, 9, (some .int))
abbrev m_X9_change : ev_M := (yX9_change, cX9_change, 6, (some .int))
abbrev m_X9_perform : ev_M := (yX9_perform, cX9_perform, 6, (some .int))
abbrev m_X9_level : ev_M := (yX9_level, cX9_level, 4, (some .long))
abbrev m_X9_close : ev_M := (yX9_close, cX9_close, 5, (some .int))
abbrev m_X9_outcome : ev_M := (yX9_outcome, cX9_outcome, 2, (some .int))
abbrev m_X9_noted : ev_M := (yX9_noted, cX9_noted, 2, (some .int))
abbrev m_X9_days : ev_M := (yX9_days, cX9_days, 1, (some .int))
abbrev m_X9_published : ev_M := (yX9_published, cX9_published, 2, (some .long))
abbrev m_X9_weight : ev_M := (yX9_weight, cX9_weight, 4, (some .int))
abbrev m_X9_printWhole : ev_M := (yX9_printWhole, cX9_printWhole, 6, none)
abbrev m_X9_print : ev_M := (yX9_print, cX9_print, 3, (some .int))
abbrev m_X9_character : ev_M := (yX9_character, cX9_character, 2, (some .int))
abbrev m_X9_places : ev_M := (yX9_places, cX9_places, 2, (some .int))
abbrev m_X9_check : ev_M := (yX9_check, cX9_check, 1, (some .int))
abbrev m_J9_max_7cf53 : ev_M := (yJ9_max_7cf53, cJ9_max_7cf53, 2, (some .int))
abbrev m_J9_max_f86c9 : ev_M := (yJ9_max_f86c9, cJ9_max_f86c9, 4, (some .long))
abbrev m_J9_min_7cf53 : ev_M := (yJ9_min_7cf53, cJ9_min_7cf53, 2, (some .int))
abbrev m_J9_min_f86c9 : ev_M := (yJ9_min_f86c9, cJ9_min_f86c9, 4, (some .long))
theorem ev_at {w : Cond} (i : Nat) (h : lw_tbl[i]? = some w) (g : goodWord w = true) : w ∈ ev_ws := List.mem_filter.mpr ⟨List.mem_of_getElem? h, g⟩
theorem ev_an {w : Cond} (i : Nat) (h : lw_tbl[i]? = some w) (g : ev_isN w = true) : w ∈ ev_ns := List.mem_filter.mpr ⟨List.mem_of_getElem? h, g⟩
set_option maxRecDepth 20000 in
theorem cd_X0_init : ev_code m_X0_init ∈ ev_ws := ev_at 128 rfl rfl
set_option maxRecDepth 20000 in
theorem cd_X0_forget : ev_code m_X0_forget ∈ ev_ws := ev_at 677 rfl rfl
set_option maxRecDepth 20000 in
theorem cd_X0_isFull : ev_code m_X0_isFull ∈ ev_ws := ev_at 317 rfl rfl
set_option maxRecDepth 20000 in
theorem cd_X0_wasArranged : ev_code m_X0_wasArranged ∈ ev_ws := ev_at 329 rfl rfl
set_option maxRecDepth 20000 in
theorem cd_X0_note : ev_code m_X0_note ∈ ev_ws := ev_at 321 rfl rfl
set_option maxRecDepth 20000 in
theorem cd_X0_isBefore : ev_code m_X0_isBefore ∈ ev_ws := ev_at 708 rfl rfl
set_option maxRecDepth 20000 in
theorem cd_X0_arrange : ev_code m_X0_arrange ∈ ev_ws := ev_at 704 rfl rfl
set_option maxRecDepth 20000 in
theorem cd_X7_init : ev_code m_X7_init ∈ ev_ws := ev_at 176 rfl rfl
set_option maxRecDepth 20000 in
theorem cd_X1_init : ev_code m_X1_init ∈ ev_ws := ev_at 170 rfl rfl
set_option maxRecDepth 20000 in
theorem cd_X1_commonDivisor : ev_code m_X1_commonDivisor ∈ ev_ws := ev_at 390 rfl rfl
set_option maxRecDepth 20000 in
theorem cd_X7_clear : ev_code m_X7_clear ∈ ev_ws := ev_at 370 rfl rfl
set_option maxRecDepth 20000 in
theorem cd_X7_trim : ev_code m_X7_trim ∈ ev_ws := ev_at 375 rfl rfl
set_option maxRecDepth 20000 in
theorem cd_X7_setProduct : ev_code m_X7_setProduct ∈ ev_ws := ev_at 402 rfl rfl
set_option maxRecDepth 20000 in
theorem cd_X7_copy : ev_code m_X7_copy ∈ ev_ws := ev_at 406 rfl rfl
set_option maxRecDepth 20000 in
theorem cd_X1_multiply : ev_code m_X1_multiply ∈ ev_ws := ev_at 416 rfl rfl
set_option maxRecDepth 20000 in
theorem cd_X7_become : ev_code m_X7_become ∈ ev_ws := ev_at 366 rfl rfl
set_option maxRecDepth 20000 in
theorem cd_X1_scale : ev_code m_X1_scale ∈ ev_ws := ev_at 398 rfl rfl
set_option maxRecDepth 20000 in
theorem cd_X7_isZero : ev_code m_X7_isZero ∈ ev_ws := ev_at 437 rfl rfl
set_option maxRecDepth 20000 in
theorem cd_J6_compare_7cf53 : ev_code m_J6_compare_7cf53 ∈ ev_ws := ev_at 444 rfl rfl
set_option maxRecDepth 20000 in
theorem cd_X7_compareWith : ev_code m_X7_compareWith ∈ ev_ws := ev_at 441 rfl rfl
set_option maxRecDepth 20000 in
theorem cd_X7_divideBySmall : ev_code m_X7_divideBySmall ∈ ev_ws := ev_at 448 rfl rfl
set_option maxRecDepth 20000 in
theorem cd_X7_freeBits : ev_code m_X7_freeBits ∈ ev_ws := ev_at 452 rfl rfl
set_option maxRecDepth 20000 in
theorem cd_X7_shiftUp : ev_code m_X7_shiftUp ∈ ev_ws := ev_at 456 rfl rfl
set_option maxRecDepth 20000 in
theorem cd_X7_digitAt : ev_code m_X7_digitAt ∈ ev_ws := ev_at 464 rfl rfl
set_option maxRecDepth 20000 in
theorem cd_X7_guessDigit : ev_code m_X7_guessDigit ∈ ev_ws := ev_at 460 rfl rfl
set_option maxRecDepth 20000 in
theorem cd_X7_subtractAt : ev_code m_X7_subtractAt ∈ ev_ws := ev_at 468 rfl rfl
set_option maxRecDepth 20000 in
theorem cd_X7_addAt : ev_code m_X7_addAt ∈ ev_ws := ev_at 472 rfl rfl
set_option maxRecDepth 20000 in
theorem cd_X7_shiftDown : ev_code m_X7_shiftDown ∈ ev_ws := ev_at 477 rfl rfl
set_option maxRecDepth 20000 in
theorem cd_X1_divide : ev_code m_X1_divide ∈ ev_ws := ev_at 433 rfl rfl
set_option maxRecDepth 20000 in
theorem cd_X7_isShort : ev_code m_X7_isShort ∈ ev_ws := ev_at 481 rfl rfl
set_option maxRecDepth 20000 in
theorem cd_X7_asLong : ev_code m_X7_asLong ∈ ev_ws := ev_at 486 rfl rfl
set_option maxRecDepth 20000 in
theorem cd_X7_isOne : ev_code m_X7_isOne ∈ ev_ws := ev_at 514 rfl rfl
set_option maxRecDepth 20000 in
theorem cd_X1_cancel : ev_code m_X1_cancel ∈ ev_ws := ev_at 507 rfl rfl
set_option maxRecDepth 20000 in
theorem cd_X2_become : ev_code m_X2_become ∈ ev_ws := ev_at 362 rfl rfl
set_option maxRecDepth 20000 in
theorem cd_X5_isMember : ev_code m_X5_isMember ∈ ev_ws := ev_at 379 rfl rfl
set_option maxRecDepth 20000 in
theorem cd_X5_plainWorth : ev_code m_X5_plainWorth ∈ ev_ws := ev_at 383 rfl rfl
set_option maxRecDepth 20000 in
theorem cd_X7_add : ev_code m_X7_add ∈ ev_ws := ev_at 420 rfl rfl
set_option maxRecDepth 20000 in
theorem cd_X1_addTo : ev_code m_X1_addTo ∈ ev_ws := ev_at 387 rfl rfl
set_option maxRecDepth 20000 in
theorem cd_X1_addUp : ev_code m_X1_addUp ∈ ev_ws := ev_at 358 rfl rfl
set_option maxRecDepth 20000 in
theorem cd_X1_weigh : ev_code m_X1_weigh ∈ ev_ws := ev_at 499 rfl rfl
set_option maxRecDepth 20000 in
theorem cd_X1_sameLevel : ev_code m_X1_sameLevel ∈ ev_ws := ev_at 794 rfl rfl
set_option maxRecDepth 20000 in
theorem cd_X2_init : ev_code m_X2_init ∈ ev_ws := ev_at 243 rfl rfl
set_option maxRecDepth 20000 in
theorem cd_X2_copy : ev_code m_X2_copy ∈ ev_ws := ev_at 518 rfl rfl
set_option maxRecDepth 20000 in
theorem cd_X7_binaryDigits : ev_code m_X7_binaryDigits ∈ ev_ws := ev_at 557 rfl rfl
set_option maxRecDepth 20000 in
theorem cd_X2_mostDigits : ev_code m_X2_mostDigits ∈ ev_ws := ev_at 788 rfl rfl
set_option maxRecDepth 20000 in
theorem cd_J7_fill_53178 : ev_code m_J7_fill_53178 ∈ ev_ws := ev_at 95 rfl rfl
set_option maxRecDepth 20000 in
theorem cd_J7_fill_d0a16 : ev_code m_J7_fill_d0a16 ∈ ev_ws := ev_at 102 rfl rfl
set_option maxRecDepth 20000 in
theorem cd_X5_resetFactors : ev_code m_X5_resetFactors ∈ ev_ws := ev_at 99 rfl rfl
set_option maxRecDepth 20000 in
theorem cd_X5_init : ev_code m_X5_init ∈ ev_ws := ev_at 89 rfl rfl
set_option maxRecDepth 20000 in
theorem cd_X5_has : ev_code m_X5_has ∈ ev_ws := ev_at 313 rfl rfl
set_option maxRecDepth 20000 in
theorem cd_X5_fits : ev_code m_X5_fits ∈ ev_ws := ev_at 655 rfl rfl
set_option maxRecDepth 20000 in
theorem cd_X5_hasFactorOne : ev_code m_X5_hasFactorOne ∈ ev_ws := ev_at 803 rfl rfl
set_option maxRecDepth 20000 in
theorem cd_X5_copy : ev_code m_X5_copy ∈ ev_ws := ev_at 716 rfl rfl
set_option maxRecDepth 20000 in
theorem cd_X5_isRatio : ev_code m_X5_isRatio ∈ ev_ws := ev_at 728 rfl rfl
set_option maxRecDepth 20000 in
theorem cd_X5_exchange : ev_code m_X5_exchange ∈ ev_ws := ev_at 732 rfl rfl
set_option maxRecDepth 20000 in
theorem cd_X5_split : ev_code m_X5_split ∈ ev_ws := ev_at 725 rfl rfl
set_option maxRecDepth 20000 in
theorem cd_X5_offerRights : ev_code m_X5_offerRights ∈ ev_ws := ev_at 738 rfl rfl
set_option maxRecDepth 20000 in
theorem cd_X5_payDividend : ev_code m_X5_payDividend ∈ ev_ws := ev_at 742 rfl rfl
set_option maxRecDepth 20000 in
theorem cd_J6_bitCount_0f7a4 : ev_code m_J6_bitCount_0f7a4 ∈ ev_ws := ev_at 750 rfl rfl
set_option maxRecDepth 20000 in
theorem cd_X5_leave : ev_code m_X5_leave ∈ ev_ws := ev_at 746 rfl rfl
set_option maxRecDepth 20000 in
theorem cd_X5_join : ev_code m_X5_join ∈ ev_ws := ev_at 757 rfl rfl
set_option maxRecDepth 20000 in
theorem cd_X5_replace : ev_code m_X5_replace ∈ ev_ws := ev_at 761 rfl rfl
set_option maxRecDepth 20000 in
theorem cd_X5_plainWorthOf : ev_code m_X5_plainWorthOf ∈ ev_ws := ev_at 773 rfl rfl
set_option maxRecDepth 20000 in
theorem cd_X5_findLarge : ev_code m_X5_findLarge ∈ ev_ws := ev_at 769 rfl rfl
set_option maxRecDepth 20000 in
theorem cd_X5_putFactor : ev_code m_X5_putFactor ∈ ev_ws := ev_at 779 rfl rfl
set_option maxRecDepth 20000 in
theorem cd_X5_cap : ev_code m_X5_cap ∈ ev_ws := ev_at 765 rfl rfl
set_option maxRecDepth 20000 in
theorem cd_X5_change : ev_code m_X5_change ∈ ev_ws := ev_at 721 rfl rfl
set_option maxRecDepth 20000 in
theorem cd_X6_init : ev_code m_X6_init ∈ ev_ws := ev_at 222 rfl rfl
set_option maxRecDepth 20000 in
theorem cd_X6_append : ev_code m_X6_append ∈ ev_ws := ev_at 540 rfl rfl
set_option maxRecDepth 20000 in
theorem cd_X6_writeBackwards : ev_code m_X6_writeBackwards ∈ ev_ws := ev_at 536 rfl rfl
set_option maxRecDepth 20000 in
theorem cd_X6_turnRound : ev_code m_X6_turnRound ∈ ev_ws := ev_at 544 rfl rfl
set_option maxRecDepth 20000 in
theorem cd_X6_writeWhole : ev_code m_X6_writeWhole ∈ ev_ws := ev_at 528 rfl rfl
set_option maxRecDepth 20000 in
theorem cd_X6_write : ev_code m_X6_write ∈ ev_ws := ev_at 524 rfl rfl
set_option maxRecDepth 20000 in
theorem cd_X8_init : ev_code m_X8_init ∈ ev_ws := ev_at 81 rfl rfl
set_option maxRecDepth 20000 in
theorem cd_X8_refuseUnknown : ev_code m_X8_refuseUnknown ∈ ev_ws := ev_at 574 rfl rfl
set_option maxRecDepth 20000 in
theorem cd_X8_set : ev_code m_X8_set ∈ ev_ws := ev_at 571 rfl rfl
set_option maxRecDepth 20000 in
theorem cd_X8_get : ev_code m_X8_get ∈ ev_ws := ev_at 664 rfl rfl
set_option maxRecDepth 20000 in
theorem cd_X8_base : ev_code m_X8_base ∈ ev_ws := ev_at 671 rfl rfl
set_option maxRecDepth 20000 in
theorem cd_X8_members : ev_code m_X8_members ∈ ev_ws := ev_at 306 rfl rfl
set_option maxRecDepth 20000 in
theorem cd_X8_event : ev_code m_X8_event ∈ ev_ws := ev_at 310 rfl rfl
set_option maxRecDepth 20000 in
theorem cd_X8_findNextDivisor : ev_code m_X8_findNextDivisor ∈ ev_ws := ev_at 784 rfl rfl
set_option maxRecDepth 20000 in
theorem cd_X8_isCapped : ev_code m_X8_isCapped ∈ ev_ws := ev_at 798 rfl rfl
set_option maxRecDepth 20000 in
theorem cd_X8_perform : ev_code m_X8_perform ∈ ev_ws := ev_at 712 rfl rfl
set_option maxRecDepth 20000 in
theorem cd_X8_exactLevel : ev_code m_X8_exactLevel ∈ ev_ws := ev_at 354 rfl rfl
set_option maxRecDepth 20000 in
theorem cd_X8_roundedLevel : ev_code m_X8_roundedLevel ∈ ev_ws := ev_at 350 rfl rfl
set_option maxRecDepth 20000 in
theorem cd_X8_close : ev_code m_X8_close ∈ ev_ws := ev_at 685 rfl rfl
set_option maxRecDepth 20000 in
theorem cd_X8_outcome : ev_code m_X8_outcome ∈ ev_ws := ev_at 325 rfl rfl
set_option maxRecDepth 20000 in
theorem cd_X8_noted : ev_code m_X8_noted ∈ ev_ws := ev_at 333 rfl rfl
set_option maxRecDepth 20000 in
theorem cd_X8_days : ev_code m_X8_days ∈ ev_ws := ev_at 337 rfl rfl
set_option maxRecDepth 20000 in
theorem cd_X8_published : ev_code m_X8_published ∈ ev_ws := ev_at 341 rfl rfl
set_option maxRecDepth 20000 in
theorem cd_X8_level : ev_code m_X8_level ∈ ev_ws := ev_at 346 rfl rfl
set_option maxRecDepth 20000 in
theorem cd_X8_weight : ev_code m_X8_weight ∈ ev_ws := ev_at 493 rfl rfl
set_option maxRecDepth 20000 in
theorem cd_X8_print : ev_code m_X8_print ∈ ev_ws := ev_at 503 rfl rfl
set_option maxRecDepth 20000 in
theorem cd_X8_character : ev_code m_X8_character ∈ ev_ws := ev_at 549 rfl rfl
set_option maxRecDepth 20000 in
theorem cd_X8_places : ev_code m_X8_places ∈ ev_ws := ev_at 553 rfl rfl
set_option maxRecDepth 20000 in
theorem cd_X8_check : ev_code m_X8_check ∈ ev_ws := ev_at 562 rfl rfl
set_option maxRecDepth 20000 in
theorem cd_X9_set : ev_code m_X9_set ∈ ev_ws := ev_at 813 rfl rfl
set_option maxRecDepth 20000 in
theorem cd_X9_init : ev_code m_X9_init ∈ ev_ws := ev_at 808 rfl rfl
set_option maxRecDepth 20000 in
theorem cd_X9_thrown : ev_code m_X9_thrown ∈ ev_ws := ev_at 894 rfl rfl
set_option maxRecDepth 20000 in
theorem cd_X9_in : ev_code m_X9_in ∈ ev_ws := ev_at 901 rfl rfl
set_option maxRecDepth 20000 in
theorem cd_X9_isMember : ev_code m_X9_isMember ∈ ev_ws := ev_at 909 rfl rfl
set_option maxRecDepth 20000 in
theorem cd_X9_copy : ev_code m_X9_copy ∈ ev_ws := ev_at 948 rfl rfl
set_option maxRecDepth 20000 in
theorem cd_X9_trim : ev_code m_X9_trim ∈ ev_ws := ev_at 935 rfl rfl
set_option maxRecDepth 20000 in
theorem cd_X9_isOne : ev_code m_X9_isOne ∈ ev_ws := ev_at 985 rfl rfl
set_option maxRecDepth 20000 in
theorem cd_X9_isEven : ev_code m_X9_isEven ∈ ev_ws := ev_at 960 rfl rfl
set_option maxRecDepth 20000 in
theorem cd_X9_bits : ev_code m_X9_bits ∈ ev_ws := ev_at 993 rfl rfl
set_option maxRecDepth 20000 in
theorem cd_X9_limb : ev_code m_X9_limb ∈ ev_ws := ev_at 943 rfl rfl
set_option maxRecDepth 20000 in
theorem cd_X9_add : ev_code m_X9_add ∈ ev_ws := ev_at 939 rfl rfl
set_option maxRecDepth 20000 in
theorem cd_X9_compare : ev_code m_X9_compare ∈ ev_ws := ev_at 968 rfl rfl
set_option maxRecDepth 20000 in
theorem cd_X9_multiply : ev_code m_X9_multiply ∈ ev_ws := ev_at 930 rfl rfl
set_option maxRecDepth 20000 in
theorem cd_X9_scale : ev_code m_X9_scale ∈ ev_ws := ev_at 997 rfl rfl
set_option maxRecDepth 20000 in
theorem cd_X9_divide : ev_code m_X9_divide ∈ ev_ws := ev_at 1095 rfl rfl
set_option maxRecDepth 20000 in
theorem cd_X9_twice : ev_code m_X9_twice ∈ ev_ws := ev_at 981 rfl rfl
set_option maxRecDepth 20000 in
theorem cd_X9_subtract : ev_code m_X9_subtract ∈ ev_ws := ev_at 972 rfl rfl
set_option maxRecDepth 20000 in
theorem cd_X9_half : ev_code m_X9_half ∈ ev_ws := ev_at 964 rfl rfl
set_option maxRecDepth 20000 in
theorem cd_X9_quotient : ev_code m_X9_quotient ∈ ev_ws := ev_at 989 rfl rfl
set_option maxRecDepth 20000 in
theorem cd_X9_swap : ev_code m_X9_swap ∈ ev_ws := ev_at 977 rfl rfl
set_option maxRecDepth 20000 in
theorem cd_X9_common : ev_code m_X9_common ∈ ev_ws := ev_at 956 rfl rfl
set_option maxRecDepth 20000 in
theorem cd_X9_reduce : ev_code m_X9_reduce ∈ ev_ws := ev_at 952 rfl rfl
set_option maxRecDepth 20000 in
theorem cd_X9_plain : ev_code m_X9_plain ∈ ev_ws := ev_at 926 rfl rfl
set_option maxRecDepth 20000 in
theorem cd_X9_sum : ev_code m_X9_sum ∈ ev_ws := ev_at 922 rfl rfl
set_option maxRecDepth 20000 in
theorem cd_X9_fits : ev_code m_X9_fits ∈ ev_ws := ev_at 904 rfl rfl
set_option maxRecDepth 20000 in
theorem cd_X9_set_ : ev_code m_X9_set_ ∈ ev_ws := ev_at 898 rfl rfl
set_option maxRecDepth 20000 in
theorem cd_X9_get : ev_code m_X9_get ∈ ev_ws := ev_at 913 rfl rfl
set_option maxRecDepth 20000 in
theorem cd_X9_base : ev_code m_X9_base ∈ ev_ws := ev_at 917 rfl rfl
set_option maxRecDepth 20000 in
theorem cd_X9_members : ev_code m_X9_members ∈ ev_ws := ev_at 1001 rfl rfl
set_option maxRecDepth 20000 in
theorem cd_X9_event : ev_code m_X9_event ∈ ev_ws := ev_at 1005 rfl rfl
set_option maxRecDepth 20000 in
theorem cd_X9_remember : ev_code m_X9_remember ∈ ev_ws := ev_at 1017 rfl rfl
set_option maxRecDepth 20000 in
theorem cd_X9_putBack : ev_code m_X9_putBack ∈ ev_ws := ev_at 1055 rfl rfl
set_option maxRecDepth 20000 in
theorem cd_X9_become : ev_code m_X9_become ∈ ev_ws := ev_at 1033 rfl rfl
set_option maxRecDepth 20000 in
theorem cd_X9_rounded : ev_code m_X9_rounded ∈ ev_ws := ev_at 1028 rfl rfl
set_option maxRecDepth 20000 in
theorem cd_X9_split : ev_code m_X9_split ∈ ev_ws := ev_at 1025 rfl rfl
set_option maxRecDepth 20000 in
theorem cd_X9_rights : ev_code m_X9_rights ∈ ev_ws := ev_at 1038 rfl rfl
set_option maxRecDepth 20000 in
theorem cd_X9_dividend : ev_code m_X9_dividend ∈ ev_ws := ev_at 1042 rfl rfl
set_option maxRecDepth 20000 in
theorem cd_X9_count : ev_code m_X9_count ∈ ev_ws := ev_at 1046 rfl rfl
set_option maxRecDepth 20000 in
theorem cd_X9_cap : ev_code m_X9_cap ∈ ev_ws := ev_at 1050 rfl rfl
set_option maxRecDepth 20000 in
theorem cd_X9_change : ev_code m_X9_change ∈ ev_ws := ev_at 1021 rfl rfl
set_option maxRecDepth 20000 in
theorem cd_X9_perform : ev_code m_X9_perform ∈ ev_ws := ev_at 1013 rfl rfl
set_option maxRecDepth 20000 in
theorem cd_X9_level : ev_code m_X9_level ∈ ev_ws := ev_at 1059 rfl rfl
set_option maxRecDepth 20000 in
theorem cd_X9_close : ev_code m_X9_close ∈ ev_ws := ev_at 1009 rfl rfl
set_option maxRecDepth 20000 in
theorem cd_X9_outcome : ev_code m_X9_outcome ∈ ev_ws := ev_at 1065 rfl rfl
set_option maxRecDepth 20000 in
theorem cd_X9_noted : ev_code m_X9_noted ∈ ev_ws := ev_at 1069 rfl rfl
set_option maxRecDepth 20000 in
theorem cd_X9_days : ev_code m_X9_days ∈ ev_ws := ev_at 1073 rfl rfl
set_option maxRecDepth 20000 in
theorem cd_X9_published : ev_code m_X9_published ∈ ev_ws := ev_at 1077 rfl rfl
set_option maxRecDepth 20000 in
theorem cd_X9_weight : ev_code m_X9_weight ∈ ev_ws := ev_at 1082 rfl rfl
set_option maxRecDepth 20000 in
theorem cd_X9_printWhole : ev_code m_X9_printWhole ∈ ev_ws := ev_at 1091 rfl rfl
set_option maxRecDepth 20000 in
theorem cd_X9_print : ev_code m_X9_print ∈ ev_ws := ev_at 1087 rfl rfl
set_option maxRecDepth 20000 in
theorem cd_X9_character : ev_code m_X9_character ∈ ev_ws := ev_at 1099 rfl rfl
set_option maxRecDepth 20000 in
theorem cd_X9_places : ev_code m_X9_places ∈ ev_ws := ev_at 1103 rfl rfl
set_option maxRecDepth 20000 in
theorem cd_X9_check : ev_code m_X9_check ∈ ev_ws := ev_at 1107 rfl rfl
set_option maxRecDepth 20000 in
theorem cd_J9_max_7cf53 : ev_code m_J9_max_7cf53 ∈ ev_ws := ev_at 409 rfl rfl
set_option maxRecDepth 20000 in
theorem cd_J9_max_f86c9 : ev_code m_J9_max_f86c9 ∈ ev_ws := ev_at 393 rfl rfl
set_option maxRecDepth 20000 in
theorem cd_J9_min_7cf53 : ev_code m_J9_min_7cf53 ∈ ev_ws := ev_at 423 rfl rfl
set_option maxRecDepth 20000 in
theorem cd_J9_min_f86c9 : ev_code m_J9_min_f86c9 ∈ ev_ws := ev_at 489 rfl rfl
theorem oi_X0_1 : Cond.methodLink RX0 1 Lib.objectInit ∈ ev_ws ∧ Cond.instanceMethod Lib.objectInit ∈ ev_ws ∧ Cond.code Lib.objectInit ⟨#[0xb1]⟩ 1 none ∈ ev_ws := ⟨ev_at 129 (by decide +kernel) rfl, ev_at 83 (by decide +kernel) rfl, ev_at 84 rfl rfl⟩
theorem pF_X0_9 : ev_fF RX0 9 0 0 (.array .int) := ⟨_, _, _, rfl, by decide, ev_at 130 (by decide +kernel) rfl, rfl, by decide +kernel, rfl⟩
theorem pF_X0_13 : ev_fF RX0 13 0 1 (.array .int) := ⟨_, _, _, rfl, by decide, ev_at 132 (by decide +kernel) rfl, rfl, by decide +kernel, rfl⟩
theorem pF_X0_16 : ev_fF RX0 16 0 2 (.array .int) := ⟨_, _, _, rfl, by decide, ev_at 134 (by decide +kernel) rfl, rfl, by decide +kernel, rfl⟩
theorem pF_X0_19 : ev_fF RX0 19 0 3 (.array .int) := ⟨_, _, _, rfl, by decide, ev_at 136 (by decide +kernel) rfl, rfl, by decide +kernel, rfl⟩
theorem pF_X0_22 : ev_fF RX0 22 0 4 (.array .int) := ⟨_, _, _, rfl, by decide, ev_at 138 (by decide +kernel) rfl, rfl, by decide +kernel, rfl⟩
theorem pF_X0_25 : ev_fF RX0 25 0 5 (.array .int) := ⟨_, _, _, rfl, by decide, ev_at 140 (by decide +kernel) rfl, rfl, by decide +kernel, rfl⟩
theorem pF_X0_28 : ev_fF RX0 28 0 6 (.array .int) := ⟨_, _, _, rfl, by decide, ev_at 142 (by decide +kernel) rfl, rfl, by decide +kernel, rfl⟩
theorem p_X0_31 : ev_fp RX0 31 0 7 .int := ⟨_, _, _, rfl, by decide, ev_at 144 (by decide +kernel) rfl, rfl, by decide +kernel⟩
theorem p_X0_35 : ev_fp RX0 35 0 8 .int := ⟨_, _, _, rfl, by decide, ev_at 145 (by decide +kernel) rfl, rfl, by decide +kernel⟩
theorem f_X0_31 : ev_fl RX0 31 0 7 := ⟨_, _, _, rfl, by decide, ev_at 144 (by decide +kernel) rfl⟩
theorem f_X0_35 : ev_fl RX0 35 0 8 := ⟨_, _, _, rfl, by decide, ev_at 145 (by decide +kernel) rfl⟩
theorem f_X0_9 : ev_fl RX0 9 0 0 := ⟨_, _, _, rfl, by decide, ev_at 130 (by decide +kernel) rfl⟩
theorem f_X0_13 : ev_fl RX0 13 0 1 := ⟨_, _, _, rfl, by decide, ev_at 132 (by decide +kernel) rfl⟩
theorem f_X0_16 : ev_fl RX0 16 0 2 := ⟨_, _, _, rfl, by decide, ev_at 134 (by decide +kernel) rfl⟩
theorem f_X0_19 : ev_fl RX0 19 0 3 := ⟨_, _, _, rfl, by decide, ev_at 136 (by decide +kernel) rfl⟩
theorem f_X0_22 : ev_fl RX0 22 0 4 := ⟨_, _, _, rfl, by decide, ev_at 138 (by decide +kernel) rfl⟩
theorem f_X0_25 : ev_fl RX0 25 0 5 := ⟨_, _, _, rfl, by decide, ev_at 140 (by decide +kernel) rfl⟩
theorem cv_X0_38 : ev_cv RX0 38 m_X0_isBefore 2 := ⟨ev_at 705 (by decide +kernel) rfl, ev_at 707 (by decide +kernel) rfl, ev_at 10 (by decide +kernel) rfl, ev_at 62 (by decide +kernel) rfl, cd_X0_isBefore, ⟨by decide +kernel, by decide +kernel, by decide +kernel⟩⟩
theorem oi_X1_1 : Cond.methodLink RX1 1 Lib.objectInit ∈ ev_ws ∧ Cond.instanceMethod Lib.objectInit ∈ ev_ws ∧ Cond.code Lib.objectInit ⟨#[0xb1]⟩ 1 none ∈ ev_ws := ⟨ev_at 171 (by decide +kernel) rfl, ev_at 83 (by decide +kernel) rfl, ev_at 84 rfl rfl⟩
theorem n_X1_7 : ev_nw RX1 7 5 2 [.null, .int 0] := ⟨_, _, rfl, ev_at 172 (by decide +kernel) rfl, ev_at 173 (by decide +kernel) rfl, ev_at 64 (by decide +kernel) rfl, tyX7, tyX7_ok, by decide +kernel⟩
theorem cin_X1_9 : ev_cin RX1 9 m_X7_init 0 := ⟨"IndexBureau", ev_an 174 (by decide +kernel) rfl, ev_at 175 (by decide +kernel) rfl, ev_at 64 (by decide +kernel) rfl, cd_X7_init, by decide +kernel, rfl, ⟨by decide +kernel, by decide +kernel, by decide +kernel⟩⟩
theorem pF_X1_10 : ev_fF RX1 10 1 0 (.object "IndexBureau$Whole") := ⟨_, _, _, rfl, by decide, ev_at 187 (by decide +kernel) rfl, rfl, by decide +kernel, rfl⟩
theorem pF_X1_16 : ev_fF RX1 16 1 1 (.object "IndexBureau$Whole") := ⟨_, _, _, rfl, by decide, ev_at 189 (by decide +kernel) rfl, rfl, by decide +kernel, rfl⟩
theorem pF_X1_19 : ev_fF RX1 19 1 2 (.object "IndexBureau$Whole") := ⟨_, _, _, rfl, by decide, ev_at 191 (by decide +kernel) rfl, rfl, by decide +kernel, rfl⟩
theorem pF_X1_22 : ev_fF RX1 22 1 3 (.object "IndexBureau$Whole") := ⟨_, _, _, rfl, by decide, ev_at 193 (by decide +kernel) rfl, rfl, by decide +kernel, rfl⟩
theorem pF_X1_25 : ev_fF RX1 25 1 4 (.object "IndexBureau$Whole") := ⟨_, _, _, rfl, by decide, ev_at 194 (by decide +kernel) rfl, rfl, by decide +kernel, rfl⟩
theorem pF_X1_28 : ev_fF RX1 28 1 5 (.object "IndexBureau$Whole") := ⟨_, _, _, rfl, by decide, ev_at 195 (by decide +kernel) rfl, rfl, by decide +kernel, rfl⟩
theorem pF_X1_31 : ev_fF RX1 31 1 6 (.object "IndexBureau$Whole") := ⟨_, _, _, rfl, by decide, ev_at 196 (by decide +kernel) rfl, rfl, by decide +kernel, rfl⟩
theorem pF_X1_34 : ev_fF RX1 34 1 7 (.object "IndexBureau$Whole") := ⟨_, _, _, rfl, by decide, ev_at 197 (by decide +kernel) rfl, rfl, by decide +kernel, rfl⟩
theorem pF_X1_37 : ev_fF RX1 37 1 8 (.object "IndexBureau$Whole") := ⟨_, _, _, rfl, by decide, ev_at 198 (by decide +kernel) rfl, rfl, by decide +kernel, rfl⟩
theorem f_X1_22 : ev_fl RX1 22 1 3 := ⟨_, _, _, rfl, by decide, ev_at 193 (by decide +kernel) rfl⟩
theorem cv_X1_40 : ev_cv RX1 40 m_X7_setProduct 2 := ⟨ev_at 399 (by decide +kernel) rfl, ev_at 400 (by decide +kernel) rfl, ev_at 401 (by decide +kernel) rfl, ev_at 64 (by decide +kernel) rfl, cd_X7_setProduct, ⟨by decide +kernel, by decide +kernel, by decide +kernel⟩⟩
theorem cv_X1_44 : ev_cv RX1 44 m_X7_copy 1 := ⟨ev_at 403 (by decide +kernel) rfl, ev_at 404 (by decide +kernel) rfl, ev_at 405 (by decide +kernel) rfl, ev_at 64 (by decide +kernel) rfl, cd_X7_copy, ⟨by decide +kernel, by decide +kernel, by decide +kernel⟩⟩
theorem f_X1_25 : ev_fl RX1 25 1 4 := ⟨_, _, _, rfl, by decide, ev_at 194 (by decide +kernel) rfl⟩
theorem cv_X1_48 : ev_cv RX1 48 m_X7_become 1 := ⟨ev_at 394 (by decide +kernel) rfl, ev_at 364 (by decide +kernel) rfl, ev_at 365 (by decide +kernel) rfl, ev_at 64 (by decide +kernel) rfl, cd_X7_become, ⟨by decide +kernel, by decide +kernel, by decide +kernel⟩⟩
theorem f_X1_10 : ev_fl RX1 10 1 0 := ⟨_, _, _, rfl, by decide, ev_at 187 (by decide +kernel) rfl⟩
theorem cv_X1_52 : ev_cv RX1 52 m_X7_isZero 0 := ⟨ev_at 434 (by decide +kernel) rfl, ev_at 435 (by decide +kernel) rfl, ev_at 436 (by decide +kernel) rfl, ev_at 64 (by decide +kernel) rfl, cd_X7_isZero, ⟨by decide +kernel, by decide +kernel, by decide +kernel⟩⟩
theorem cv_X1_56 : ev_cv RX1 56 m_X7_compareWith 1 := ⟨ev_at 438 (by decide +kernel) rfl, ev_at 439 (by decide +kernel) rfl, ev_at 440 (by decide +kernel) rfl, ev_at 64 (by decide +kernel) rfl, cd_X7_compareWith, ⟨by decide +kernel, by decide +kernel, by decide +kernel⟩⟩
theorem f_X1_60 : ev_fl RX1 60 5 1 := ⟨_, _, _, rfl, by decide, ev_at 181 (by decide +kernel) rfl⟩
theorem f_X1_64 : ev_fl RX1 64 5 0 := ⟨_, _, _, rfl, by decide, ev_at 179 (by decide +kernel) rfl⟩
theorem cv_X1_68 : ev_cv RX1 68 m_X7_divideBySmall 1 := ⟨ev_at 445 (by decide +kernel) rfl, ev_at 446 (by decide +kernel) rfl, ev_at 447 (by decide +kernel) rfl, ev_at 64 (by decide +kernel) rfl, cd_X7_divideBySmall, ⟨by decide +kernel, by decide +kernel, by decide +kernel⟩⟩
theorem cv_X1_72 : ev_cv RX1 72 m_X7_freeBits 0 := ⟨ev_at 449 (by decide +kernel) rfl, ev_at 450 (by decide +kernel) rfl, ev_at 451 (by decide +kernel) rfl, ev_at 64 (by decide +kernel) rfl, cd_X7_freeBits, ⟨by decide +kernel, by decide +kernel, by decide +kernel⟩⟩
theorem f_X1_31 : ev_fl RX1 31 1 6 := ⟨_, _, _, rfl, by decide, ev_at 196 (by decide +kernel) rfl⟩
theorem cv_X1_76 : ev_cv RX1 76 m_X7_shiftUp 1 := ⟨ev_at 453 (by decide +kernel) rfl, ev_at 454 (by decide +kernel) rfl, ev_at 455 (by decide +kernel) rfl, ev_at 64 (by decide +kernel) rfl, cd_X7_shiftUp, ⟨by decide +kernel, by decide +kernel, by decide +kernel⟩⟩
theorem cv_X1_80 : ev_cv RX1 80 m_X7_guessDigit 2 := ⟨ev_at 457 (by decide +kernel) rfl, ev_at 458 (by decide +kernel) rfl, ev_at 459 (by decide +kernel) rfl, ev_at 64 (by decide +kernel) rfl, cd_X7_guessDigit, ⟨by decide +kernel, by decide +kernel, by decide +kernel⟩⟩
theorem cv_X1_84 : ev_cv RX1 84 m_X7_subtractAt 3 := ⟨ev_at 465 (by decide +kernel) rfl, ev_at 466 (by decide +kernel) rfl, ev_at 467 (by decide +kernel) rfl, ev_at 64 (by decide +kernel) rfl, cd_X7_subtractAt, ⟨by decide +kernel, by decide +kernel, by decide +kernel⟩⟩
theorem cv_X1_88 : ev_cv RX1 88 m_X7_addAt 2 := ⟨ev_at 469 (by decide +kernel) rfl, ev_at 470 (by decide +kernel) rfl, ev_at 471 (by decide +kernel) rfl, ev_at 64 (by decide +kernel) rfl, cd_X7_addAt, ⟨by decide +kernel, by decide +kernel, by decide +kernel⟩⟩
theorem cv_X1_92 : ev_cv RX1 92 m_X7_trim 1 := ⟨ev_at 473 (by decide +kernel) rfl, ev_at 373 (by decide +kernel) rfl, ev_at 374 (by decide +kernel) rfl, ev_at 64 (by decide +kernel) rfl, cd_X7_trim, ⟨by decide +kernel, by decide +kernel, by decide +kernel⟩⟩
theorem cv_X1_95 : ev_cv RX1 95 m_X7_shiftDown 1 := ⟨ev_at 474 (by decide +kernel) rfl, ev_at 475 (by decide +kernel) rfl, ev_at 476 (by decide +kernel) rfl, ev_at 64 (by decide +kernel) rfl, cd_X7_shiftDown, ⟨by decide +kernel, by decide +kernel, by decide +kernel⟩⟩
theorem f_X1_34 : ev_fl RX1 34 1 7 := ⟨_, _, _, rfl, by decide, ev_at 197 (by decide +kernel) rfl⟩
theorem f_X1_37 : ev_fl RX1 37 1 8 := ⟨_, _, _, rfl, by decide, ev_at 198 (by decide +kernel) rfl⟩
theorem cv_X1_98 : ev_cv RX1 98 m_X7_isShort 0 := ⟨ev_at 508 (by decide +kernel) rfl, ev_at 479 (by decide +kernel) rfl, ev_at 480 (by decide +kernel) rfl, ev_at 64 (by decide +kernel) rfl, cd_X7_isShort, ⟨by decide +kernel, by decide +kernel, by decide +kernel⟩⟩
theorem cv_X1_101 : ev_cv RX1 101 m_X1_divide 2 := ⟨ev_at 509 (by decide +kernel) rfl, ev_at 431 (by decide +kernel) rfl, ev_at 432 (by decide +kernel) rfl, ev_at 63 (by decide +kernel) rfl, cd_X1_divide, ⟨by decide +kernel, by decide +kernel, by decide +kernel⟩⟩
theorem cv_X1_104 : ev_cv RX1 104 m_X7_asLong 0 := ⟨ev_at 510 (by decide +kernel) rfl, ev_at 484 (by decide +kernel) rfl, ev_at 485 (by decide +kernel) rfl, ev_at 64 (by decide +kernel) rfl, cd_X7_asLong, ⟨by decide +kernel, by decide +kernel, by decide +kernel⟩⟩
theorem cs_X1_108 : ev_cs RX1 108 m_X1_commonDivisor 2 := ⟨ev_at 388 (by decide +kernel) rfl, ev_at 389 (by decide +kernel) rfl, ev_at 63 (by decide +kernel) rfl, cd_X1_commonDivisor, ⟨by decide +kernel, by decide +kernel, by decide +kernel⟩⟩
theorem cv_X1_112 : ev_cv RX1 112 m_X7_isOne 0 := ⟨ev_at 511 (by decide +kernel) rfl, ev_at 512 (by decide +kernel) rfl, ev_at 513 (by decide +kernel) rfl, ev_at 64 (by decide +kernel) rfl, cd_X7_isOne, ⟨by decide +kernel, by decide +kernel, by decide +kernel⟩⟩
theorem cv_X1_115 : ev_cv RX1 115 m_X2_become 2 := ⟨ev_at 359 (by decide +kernel) rfl, ev_at 360 (by decide +kernel) rfl, ev_at 361 (by decide +kernel) rfl, ev_at 66 (by decide +kernel) rfl, cd_X2_become, ⟨by decide +kernel, by decide +kernel, by decide +kernel⟩⟩
theorem cv_X1_122 : ev_cv RX1 122 m_X5_isMember 1 := ⟨ev_at 376 (by decide +kernel) rfl, ev_at 377 (by decide +kernel) rfl, ev_at 378 (by decide +kernel) rfl, ev_at 60 (by decide +kernel) rfl, cd_X5_isMember, ⟨by decide +kernel, by decide +kernel, by decide +kernel⟩⟩
theorem cv_X1_126 : ev_cv RX1 126 m_X5_plainWorth 1 := ⟨ev_at 380 (by decide +kernel) rfl, ev_at 381 (by decide +kernel) rfl, ev_at 382 (by decide +kernel) rfl, ev_at 60 (by decide +kernel) rfl, cd_X5_plainWorth, ⟨by decide +kernel, by decide +kernel, by decide +kernel⟩⟩
theorem f_X1_130 : ev_fl RX1 130 3 1 := ⟨_, _, _, rfl, by decide, ev_at 106 (by decide +kernel) rfl⟩
theorem f_X1_134 : ev_fl RX1 134 3 2 := ⟨_, _, _, rfl, by decide, ev_at 109 (by decide +kernel) rfl⟩
theorem cv_X1_137 : ev_cv RX1 137 m_X1_addTo 4 := ⟨ev_at 384 (by decide +kernel) rfl, ev_at 386 (by decide +kernel) rfl, ev_at 3 (by decide +kernel) rfl, ev_at 63 (by decide +kernel) rfl, cd_X1_addTo, ⟨by decide +kernel, by decide +kernel, by decide +kernel⟩⟩
theorem mx_X1_141 : Cond.methodLink RX1 141 Lib.MathLoose.max_long.x ∈ ev_ws ∧ Cond.static Lib.MathLoose.max_long.x ∈ ev_ws ∧ Cond.initialized "java/lang/Math" ∈ ev_ws ∧ Cond.code Lib.MathLoose.max_long.x Lib.MathLoose.max_long.code 4 (some .long) ∈ ev_ws := ⟨ev_at 391 (by decide +kernel) rfl, ev_at 392 (by decide +kernel) rfl, ev_at 73 (by decide +kernel) rfl, ev_at 393 (by decide +kernel) rfl⟩
theorem f_X1_28 : ev_fl RX1 28 1 5 := ⟨_, _, _, rfl, by decide, ev_at 195 (by decide +kernel) rfl⟩
theorem cv_X1_146 : ev_cv RX1 146 m_X1_scale 2 := ⟨ev_at 395 (by decide +kernel) rfl, ev_at 396 (by decide +kernel) rfl, ev_at 397 (by decide +kernel) rfl, ev_at 63 (by decide +kernel) rfl, cd_X1_scale, ⟨by decide +kernel, by decide +kernel, by decide +kernel⟩⟩
theorem f_X1_150 : ev_fl RX1 150 2 1 := ⟨_, _, _, rfl, by decide, ev_at 254 (by decide +kernel) rfl⟩
theorem cv_X1_153 : ev_cv RX1 153 m_X1_multiply 2 := ⟨ev_at 413 (by decide +kernel) rfl, ev_at 414 (by decide +kernel) rfl, ev_at 415 (by decide +kernel) rfl, ev_at 63 (by decide +kernel) rfl, cd_X1_multiply, ⟨by decide +kernel, by decide +kernel, by decide +kernel⟩⟩
theorem f_X1_156 : ev_fl RX1 156 2 0 := ⟨_, _, _, rfl, by decide, ev_at 250 (by decide +kernel) rfl⟩
theorem cv_X1_159 : ev_cv RX1 159 m_X7_add 1 := ⟨ev_at 417 (by decide +kernel) rfl, ev_at 418 (by decide +kernel) rfl, ev_at 419 (by decide +kernel) rfl, ev_at 64 (by decide +kernel) rfl, cd_X7_add, ⟨by decide +kernel, by decide +kernel, by decide +kernel⟩⟩
theorem f_X1_16 : ev_fl RX1 16 1 1 := ⟨_, _, _, rfl, by decide, ev_at 189 (by decide +kernel) rfl⟩
theorem f_X1_19 : ev_fl RX1 19 1 2 := ⟨_, _, _, rfl, by decide, ev_at 191 (by decide +kernel) rfl⟩
theorem oi_X2_1 : Cond.methodLink RX2 1 Lib.objectInit ∈ ev_ws ∧ Cond.instanceMethod Lib.objectInit ∈ ev_ws ∧ Cond.code Lib.objectInit ⟨#[0xb1]⟩ 1 none ∈ ev_ws := ⟨ev_at 244 (by decide +kernel) rfl, ev_at 83 (by decide +kernel) rfl, ev_at 84 rfl rfl⟩
theorem n_X2_7 : ev_nw RX2 7 5 2 [.null, .int 0] := ⟨_, _, rfl, ev_at 245 (by decide +kernel) rfl, ev_at 173 (by decide +kernel) rfl, ev_at 64 (by decide +kernel) rfl, tyX7, tyX7_ok, by decide +kernel⟩
theorem cin_X2_9 : ev_cin RX2 9 m_X7_init 0 := ⟨"IndexBureau", ev_an 246 (by decide +kernel) rfl, ev_at 175 (by decide +kernel) rfl, ev_at 64 (by decide +kernel) rfl, cd_X7_init, by decide +kernel, rfl, ⟨by decide +kernel, by decide +kernel, by decide +kernel⟩⟩
theorem pF_X2_10 : ev_fF RX2 10 2 0 (.object "IndexBureau$Whole") := ⟨_, _, _, rfl, by decide, ev_at 247 (by decide +kernel) rfl, rfl, by decide +kernel, rfl⟩
theorem pF_X2_16 : ev_fF RX2 16 2 1 (.object "IndexBureau$Whole") := ⟨_, _, _, rfl, by decide, ev_at 251 (by decide +kernel) rfl, rfl, by decide +kernel, rfl⟩
theorem f_X2_10 : ev_fl RX2 10 2 0 := ⟨_, _, _, rfl, by decide, ev_at 247 (by decide +kernel) rfl⟩
theorem cv_X2_19 : ev_cv RX2 19 m_X7_become 1 := ⟨ev_at 363 (by decide +kernel) rfl, ev_at 364 (by decide +kernel) rfl, ev_at 365 (by decide +kernel) rfl, ev_at 64 (by decide +kernel) rfl, cd_X7_become, ⟨by decide +kernel, by decide +kernel, by decide +kernel⟩⟩
theorem f_X2_16 : ev_fl RX2 16 2 1 := ⟨_, _, _, rfl, by decide, ev_at 251 (by decide +kernel) rfl⟩
theorem cv_X2_23 : ev_cv RX2 23 m_X7_copy 1 := ⟨ev_at 519 (by decide +kernel) rfl, ev_at 404 (by decide +kernel) rfl, ev_at 405 (by decide +kernel) rfl, ev_at 64 (by decide +kernel) rfl, cd_X7_copy, ⟨by decide +kernel, by decide +kernel, by decide +kernel⟩⟩
theorem cv_X2_27 : ev_cv RX2 27 m_X7_binaryDigits 0 := ⟨ev_at 789 (by decide +kernel) rfl, ev_at 555 (by decide +kernel) rfl, ev_at 556 (by decide +kernel) rfl, ev_at 64 (by decide +kernel) rfl, cd_X7_binaryDigits, ⟨by decide +kernel, by decide +kernel, by decide +kernel⟩⟩
theorem mx_X2_31 : Cond.methodLink RX2 31 Lib.Math.max.name ∈ ev_ws ∧ Cond.static Lib.Math.max.name ∈ ev_ws ∧ Cond.initialized "java/lang/Math" ∈ ev_ws ∧ Cond.code Lib.Math.max.name Lib.Math.max.code 2 (some .int) ∈ ev_ws := ⟨ev_at 790 (by decide +kernel) rfl, ev_at 408 (by decide +kernel) rfl, ev_at 73 (by decide +kernel) rfl, ev_at 409 (by decide +kernel) rfl⟩
theorem oi_X5_1 : Cond.methodLink RX5 1 Lib.objectInit ∈ ev_ws ∧ Cond.instanceMethod Lib.objectInit ∈ ev_ws ∧ Cond.code Lib.objectInit ⟨#[0xb1]⟩ 1 none ∈ ev_ws := ⟨ev_at 90 (by decide +kernel) rfl, ev_at 83 (by decide +kernel) rfl, ev_at 84 rfl rfl⟩
theorem pF_X5_11 : ev_fF RX5 11 3 0 (.array (.array .int)) := ⟨_, _, _, rfl, by decide, ev_at 103 (by decide +kernel) rfl, rfl, by decide +kernel, rfl⟩
theorem pF_X5_14 : ev_fF RX5 14 3 1 (.array .long) := ⟨_, _, _, rfl, by decide, ev_at 105 (by decide +kernel) rfl, rfl, by decide +kernel, rfl⟩
theorem pF_X5_18 : ev_fF RX5 18 3 2 (.array .long) := ⟨_, _, _, rfl, by decide, ev_at 108 (by decide +kernel) rfl, rfl, by decide +kernel, rfl⟩
theorem f_X5_11 : ev_fl RX5 11 3 0 := ⟨_, _, _, rfl, by decide, ev_at 103 (by decide +kernel) rfl⟩
theorem cs_X5_21 : ev_cs RX5 21 m_J7_fill_53178 2 := ⟨ev_at 93 (by decide +kernel) rfl, ev_at 94 (by decide +kernel) rfl, ev_at 61 (by decide +kernel) rfl, cd_J7_fill_53178, ⟨by decide +kernel, by decide +kernel, by decide +kernel⟩⟩
theorem cv_X5_27 : ev_cv RX5 27 m_X5_resetFactors 0 := ⟨ev_at 96 (by decide +kernel) rfl, ev_at 97 (by decide +kernel) rfl, ev_at 98 (by decide +kernel) rfl, ev_at 60 (by decide +kernel) rfl, cd_X5_resetFactors, ⟨by decide +kernel, by decide +kernel, by decide +kernel⟩⟩
theorem p_X5_30 : ev_fp RX5 30 3 3 .int := ⟨_, _, _, rfl, by decide, ev_at 111 (by decide +kernel) rfl, rfl, by decide +kernel⟩
theorem s_X5_34 : Cond.fieldLink RX5 34 "IndexBureau$Shares" "MOST" "[I" ∈ ev_ws := ev_at 656 (by decide +kernel) rfl
theorem f_X5_30 : ev_fl RX5 30 3 3 := ⟨_, _, _, rfl, by decide, ev_at 111 (by decide +kernel) rfl⟩
theorem f_X5_14 : ev_fl RX5 14 3 1 := ⟨_, _, _, rfl, by decide, ev_at 105 (by decide +kernel) rfl⟩
theorem f_X5_18 : ev_fl RX5 18 3 2 := ⟨_, _, _, rfl, by decide, ev_at 108 (by decide +kernel) rfl⟩
theorem ac_X5_38 : Cond.methodLink RX5 38 arraycopyName ∈ ev_ws ∧ Cond.native arraycopyName ∈ ev_ws ∧ Cond.static arraycopyName ∈ ev_ws ∧ Cond.initialized "java/lang/System" ∈ ev_ws := ⟨ev_at 717 (by decide +kernel) rfl, ev_at 412 (by decide +kernel) rfl, ev_at 411 (by decide +kernel) rfl, ev_at 74 (by decide +kernel) rfl⟩
theorem cs_X5_44 : ev_cs RX5 44 m_J7_fill_d0a16 2 := ⟨ev_at 100 (by decide +kernel) rfl, ev_at 101 (by decide +kernel) rfl, ev_at 61 (by decide +kernel) rfl, cd_J7_fill_d0a16, ⟨by decide +kernel, by decide +kernel, by decide +kernel⟩⟩
theorem cv_X5_47 : ev_cv RX5 47 m_X5_split 3 := ⟨ev_at 722 (by decide +kernel) rfl, ev_at 724 (by decide +kernel) rfl, ev_at 12 (by decide +kernel) rfl, ev_at 60 (by decide +kernel) rfl, cd_X5_split, ⟨by decide +kernel, by decide +kernel, by decide +kernel⟩⟩
theorem cv_X5_51 : ev_cv RX5 51 m_X5_offerRights 4 := ⟨ev_at 735 (by decide +kernel) rfl, ev_at 737 (by decide +kernel) rfl, ev_at 14 (by decide +kernel) rfl, ev_at 60 (by decide +kernel) rfl, cd_X5_offerRights, ⟨by decide +kernel, by decide +kernel, by decide +kernel⟩⟩
theorem cv_X5_55 : ev_cv RX5 55 m_X5_payDividend 2 := ⟨ev_at 739 (by decide +kernel) rfl, ev_at 741 (by decide +kernel) rfl, ev_at 15 (by decide +kernel) rfl, ev_at 60 (by decide +kernel) rfl, cd_X5_payDividend, ⟨by decide +kernel, by decide +kernel, by decide +kernel⟩⟩
theorem cv_X5_59 : ev_cv RX5 59 m_X5_leave 1 := ⟨ev_at 743 (by decide +kernel) rfl, ev_at 745 (by decide +kernel) rfl, ev_at 16 (by decide +kernel) rfl, ev_at 60 (by decide +kernel) rfl, cd_X5_leave, ⟨by decide +kernel, by decide +kernel, by decide +kernel⟩⟩
theorem cv_X5_63 : ev_cv RX5 63 m_X5_join 1 := ⟨ev_at 754 (by decide +kernel) rfl, ev_at 756 (by decide +kernel) rfl, ev_at 17 (by decide +kernel) rfl, ev_at 60 (by decide +kernel) rfl, cd_X5_join, ⟨by decide +kernel, by decide +kernel, by decide +kernel⟩⟩
theorem cv_X5_66 : ev_cv RX5 66 m_X5_replace 3 := ⟨ev_at 758 (by decide +kernel) rfl, ev_at 760 (by decide +kernel) rfl, ev_at 18 (by decide +kernel) rfl, ev_at 60 (by decide +kernel) rfl, cd_X5_replace, ⟨by decide +kernel, by decide +kernel, by decide +kernel⟩⟩
theorem cv_X5_69 : ev_cv RX5 69 m_X5_cap 1 := ⟨ev_at 762 (by decide +kernel) rfl, ev_at 764 (by decide +kernel) rfl, ev_at 19 (by decide +kernel) rfl, ev_at 60 (by decide +kernel) rfl, cd_X5_cap, ⟨by decide +kernel, by decide +kernel, by decide +kernel⟩⟩
theorem cs_X5_72 : ev_cs RX5 72 m_X5_isRatio 2 := ⟨ev_at 726 (by decide +kernel) rfl, ev_at 727 (by decide +kernel) rfl, ev_at 60 (by decide +kernel) rfl, cd_X5_isRatio, ⟨by decide +kernel, by decide +kernel, by decide +kernel⟩⟩
theorem cv_X5_78 : ev_cv RX5 78 m_X5_exchange 5 := ⟨ev_at 729 (by decide +kernel) rfl, ev_at 731 (by decide +kernel) rfl, ev_at 13 (by decide +kernel) rfl, ev_at 60 (by decide +kernel) rfl, cd_X5_exchange, ⟨by decide +kernel, by decide +kernel, by decide +kernel⟩⟩
theorem cs_X5_82 : ev_cs RX5 82 m_X5_fits 2 := ⟨ev_at 734 (by decide +kernel) rfl, ev_at 654 (by decide +kernel) rfl, ev_at 60 (by decide +kernel) rfl, cd_X5_fits, ⟨by decide +kernel, by decide +kernel, by decide +kernel⟩⟩
theorem k_X5_86 : Cond.constantLong RX5 86 (lN 2) ∈ ev_ws := ev_at 733 (by decide +kernel) rfl
theorem cv_X5_88 : ev_cv RX5 88 m_X5_isMember 1 := ⟨ev_at 747 (by decide +kernel) rfl, ev_at 377 (by decide +kernel) rfl, ev_at 378 (by decide +kernel) rfl, ev_at 60 (by decide +kernel) rfl, cd_X5_isMember, ⟨by decide +kernel, by decide +kernel, by decide +kernel⟩⟩
theorem cs_X5_92 : ev_cs RX5 92 m_J6_bitCount_0f7a4 1 := ⟨ev_at 748 (by decide +kernel) rfl, ev_at 749 (by decide +kernel) rfl, ev_at 75 (by decide +kernel) rfl, cd_J6_bitCount_0f7a4, ⟨by decide +kernel, by decide +kernel, by decide +kernel⟩⟩
theorem cv_X5_97 : ev_cv RX5 97 m_X5_findLarge 1 := ⟨ev_at 766 (by decide +kernel) rfl, ev_at 768 (by decide +kernel) rfl, ev_at 20 (by decide +kernel) rfl, ev_at 60 (by decide +kernel) rfl, cd_X5_findLarge, ⟨by decide +kernel, by decide +kernel, by decide +kernel⟩⟩
theorem cv_X5_100 : ev_cv RX5 100 m_X5_plainWorthOf 1 := ⟨ev_at 770 (by decide +kernel) rfl, ev_at 772 (by decide +kernel) rfl, ev_at 21 (by decide +kernel) rfl, ev_at 60 (by decide +kernel) rfl, cd_X5_plainWorthOf, ⟨by decide +kernel, by decide +kernel, by decide +kernel⟩⟩
theorem k_X5_104 : Cond.constantLong RX5 104 (lN 100) ∈ ev_ws := ev_at 775 (by decide +kernel) rfl
theorem cv_X5_106 : ev_cv RX5 106 m_X5_plainWorth 1 := ⟨ev_at 774 (by decide +kernel) rfl, ev_at 381 (by decide +kernel) rfl, ev_at 382 (by decide +kernel) rfl, ev_at 60 (by decide +kernel) rfl, cd_X5_plainWorth, ⟨by decide +kernel, by decide +kernel, by decide +kernel⟩⟩
theorem cv_X5_109 : ev_cv RX5 109 m_X5_putFactor 3 := ⟨ev_at 776 (by decide +kernel) rfl, ev_at 778 (by decide +kernel) rfl, ev_at 22 (by decide +kernel) rfl, ev_at 60 (by decide +kernel) rfl, cd_X5_putFactor, ⟨by decide +kernel, by decide +kernel, by decide +kernel⟩⟩
theorem cs_X5_113 : ev_cs RX5 113 m_X1_commonDivisor 2 := ⟨ev_at 780 (by decide +kernel) rfl, ev_at 389 (by decide +kernel) rfl, ev_at 63 (by decide +kernel) rfl, cd_X1_commonDivisor, ⟨by decide +kernel, by decide +kernel, by decide +kernel⟩⟩
theorem oi_X6_3 : Cond.methodLink RX6 3 Lib.objectInit ∈ ev_ws ∧ Cond.instanceMethod Lib.objectInit ∈ ev_ws ∧ Cond.code Lib.objectInit ⟨#[0xb1]⟩ 1 none ∈ ev_ws := ⟨ev_at 223 (by decide +kernel) rfl, ev_at 83 (by decide +kernel) rfl, ev_at 84 rfl rfl⟩
theorem pF_X6_11 : ev_fF RX6 11 4 0 (.array .char) := ⟨_, _, _, rfl, by decide, ev_at 226 (by decide +kernel) rfl, rfl, by decide +kernel, rfl⟩
theorem n_X6_15 : ev_nw RX6 15 5 2 [.null, .int 0] := ⟨_, _, rfl, ev_at 224 (by decide +kernel) rfl, ev_at 173 (by decide +kernel) rfl, ev_at 64 (by decide +kernel) rfl, tyX7, tyX7_ok, by decide +kernel⟩
theorem cin_X6_17 : ev_cin RX6 17 m_X7_init 0 := ⟨"IndexBureau", ev_an 225 (by decide +kernel) rfl, ev_at 175 (by decide +kernel) rfl, ev_at 64 (by decide +kernel) rfl, cd_X7_init, by decide +kernel, rfl, ⟨by decide +kernel, by decide +kernel, by decide +kernel⟩⟩
theorem pF_X6_18 : ev_fF RX6 18 4 1 (.object "IndexBureau$Whole") := ⟨_, _, _, rfl, by decide, ev_at 228 (by decide +kernel) rfl, rfl, by decide +kernel, rfl⟩
theorem p_X6_22 : ev_fp RX6 22 4 2 .int := ⟨_, _, _, rfl, by decide, ev_at 229 (by decide +kernel) rfl, rfl, by decide +kernel⟩
theorem f_X6_26 : ev_fl RX6 26 2 0 := ⟨_, _, _, rfl, by decide, ev_at 248 (by decide +kernel) rfl⟩
theorem cv_X6_31 : ev_cv RX6 31 m_X6_writeWhole 1 := ⟨ev_at 525 (by decide +kernel) rfl, ev_at 527 (by decide +kernel) rfl, ev_at 5 (by decide +kernel) rfl, ev_at 65 (by decide +kernel) rfl, cd_X6_writeWhole, ⟨by decide +kernel, by decide +kernel, by decide +kernel⟩⟩
theorem f_X6_35 : ev_fl RX6 35 2 1 := ⟨_, _, _, rfl, by decide, ev_at 252 (by decide +kernel) rfl⟩
theorem cv_X6_38 : ev_cv RX6 38 m_X7_isOne 0 := ⟨ev_at 545 (by decide +kernel) rfl, ev_at 512 (by decide +kernel) rfl, ev_at 513 (by decide +kernel) rfl, ev_at 64 (by decide +kernel) rfl, cd_X7_isOne, ⟨by decide +kernel, by decide +kernel, by decide +kernel⟩⟩
theorem cv_X6_42 : ev_cv RX6 42 m_X6_append 1 := ⟨ev_at 537 (by decide +kernel) rfl, ev_at 539 (by decide +kernel) rfl, ev_at 7 (by decide +kernel) rfl, ev_at 65 (by decide +kernel) rfl, cd_X6_append, ⟨by decide +kernel, by decide +kernel, by decide +kernel⟩⟩
theorem f_X6_22 : ev_fl RX6 22 4 2 := ⟨_, _, _, rfl, by decide, ev_at 229 (by decide +kernel) rfl⟩
theorem f_X6_18 : ev_fl RX6 18 4 1 := ⟨_, _, _, rfl, by decide, ev_at 228 (by decide +kernel) rfl⟩
theorem cv_X6_46 : ev_cv RX6 46 m_X7_copy 1 := ⟨ev_at 529 (by decide +kernel) rfl, ev_at 404 (by decide +kernel) rfl, ev_at 405 (by decide +kernel) rfl, ev_at 64 (by decide +kernel) rfl, cd_X7_copy, ⟨by decide +kernel, by decide +kernel, by decide +kernel⟩⟩
theorem cv_X6_49 : ev_cv RX6 49 m_X7_isZero 0 := ⟨ev_at 530 (by decide +kernel) rfl, ev_at 435 (by decide +kernel) rfl, ev_at 436 (by decide +kernel) rfl, ev_at 64 (by decide +kernel) rfl, cd_X7_isZero, ⟨by decide +kernel, by decide +kernel, by decide +kernel⟩⟩
theorem k_X6_52 : Cond.constant RX6 52 (nI 1000000000) ∈ ev_ws := ev_at 531 (by decide +kernel) rfl
theorem cv_X6_53 : ev_cv RX6 53 m_X7_divideBySmall 1 := ⟨ev_at 532 (by decide +kernel) rfl, ev_at 446 (by decide +kernel) rfl, ev_at 447 (by decide +kernel) rfl, ev_at 64 (by decide +kernel) rfl, cd_X7_divideBySmall, ⟨by decide +kernel, by decide +kernel, by decide +kernel⟩⟩
theorem cv_X6_57 : ev_cv RX6 57 m_X6_writeBackwards 2 := ⟨ev_at 533 (by decide +kernel) rfl, ev_at 535 (by decide +kernel) rfl, ev_at 6 (by decide +kernel) rfl, ev_at 65 (by decide +kernel) rfl, cd_X6_writeBackwards, ⟨by decide +kernel, by decide +kernel, by decide +kernel⟩⟩
theorem cv_X6_61 : ev_cv RX6 61 m_X6_turnRound 1 := ⟨ev_at 541 (by decide +kernel) rfl, ev_at 543 (by decide +kernel) rfl, ev_at 8 (by decide +kernel) rfl, ev_at 65 (by decide +kernel) rfl, cd_X6_turnRound, ⟨by decide +kernel, by decide +kernel, by decide +kernel⟩⟩
theorem f_X6_11 : ev_fl RX6 11 4 0 := ⟨_, _, _, rfl, by decide, ev_at 226 (by decide +kernel) rfl⟩
theorem oi_X7_3 : Cond.methodLink RX7 3 Lib.objectInit ∈ ev_ws ∧ Cond.instanceMethod Lib.objectInit ∈ ev_ws ∧ Cond.code Lib.objectInit ⟨#[0xb1]⟩ 1 none ∈ ev_ws := ⟨ev_at 177 (by decide +kernel) rfl, ev_at 83 (by decide +kernel) rfl, ev_at 84 rfl rfl⟩
theorem pF_X7_9 : ev_fF RX7 9 5 0 (.array .int) := ⟨_, _, _, rfl, by decide, ev_at 178 (by decide +kernel) rfl, rfl, by decide +kernel, rfl⟩
theorem cv_X7_13 : ev_cv RX7 13 m_X7_clear 0 := ⟨ev_at 367 (by decide +kernel) rfl, ev_at 369 (by decide +kernel) rfl, ev_at 2 (by decide +kernel) rfl, ev_at 64 (by decide +kernel) rfl, cd_X7_clear, ⟨by decide +kernel, by decide +kernel, by decide +kernel⟩⟩
theorem f_X7_9 : ev_fl RX7 9 5 0 := ⟨_, _, _, rfl, by decide, ev_at 178 (by decide +kernel) rfl⟩
theorem k_X7_16 : Cond.constantLong RX7 16 (lN 1073741823) ∈ ev_ws := ev_at 371 (by decide +kernel) rfl
theorem cv_X7_18 : ev_cv RX7 18 m_X7_trim 1 := ⟨ev_at 372 (by decide +kernel) rfl, ev_at 373 (by decide +kernel) rfl, ev_at 374 (by decide +kernel) rfl, ev_at 64 (by decide +kernel) rfl, cd_X7_trim, ⟨by decide +kernel, by decide +kernel, by decide +kernel⟩⟩
theorem f_X7_22 : ev_fl RX7 22 5 1 := ⟨_, _, _, rfl, by decide, ev_at 180 (by decide +kernel) rfl⟩
theorem mx_X7_26 : Cond.methodLink RX7 26 Lib.Math.max.name ∈ ev_ws ∧ Cond.static Lib.Math.max.name ∈ ev_ws ∧ Cond.initialized "java/lang/Math" ∈ ev_ws ∧ Cond.code Lib.Math.max.name Lib.Math.max.code 2 (some .int) ∈ ev_ws := ⟨ev_at 407 (by decide +kernel) rfl, ev_at 408 (by decide +kernel) rfl, ev_at 73 (by decide +kernel) rfl, ev_at 409 (by decide +kernel) rfl⟩
theorem ac_X7_32 : Cond.methodLink RX7 32 arraycopyName ∈ ev_ws ∧ Cond.native arraycopyName ∈ ev_ws ∧ Cond.static arraycopyName ∈ ev_ws ∧ Cond.initialized "java/lang/System" ∈ ev_ws := ⟨ev_at 410 (by decide +kernel) rfl, ev_at 412 (by decide +kernel) rfl, ev_at 411 (by decide +kernel) rfl, ev_at 74 (by decide +kernel) rfl⟩
theorem p_X7_22 : ev_fp RX7 22 5 1 .int := ⟨_, _, _, rfl, by decide, ev_at 180 (by decide +kernel) rfl, rfl, by decide +kernel⟩
theorem cv_X7_38 : ev_cv RX7 38 m_X7_freeBits 0 := ⟨ev_at 558 (by decide +kernel) rfl, ev_at 450 (by decide +kernel) rfl, ev_at 451 (by decide +kernel) rfl, ev_at 64 (by decide +kernel) rfl, cd_X7_freeBits, ⟨by decide +kernel, by decide +kernel, by decide +kernel⟩⟩
theorem cs_X7_42 : ev_cs RX7 42 m_J6_compare_7cf53 2 := ⟨ev_at 442 (by decide +kernel) rfl, ev_at 443 (by decide +kernel) rfl, ev_at 75 (by decide +kernel) rfl, cd_J6_compare_7cf53, ⟨by decide +kernel, by decide +kernel, by decide +kernel⟩⟩
theorem mx_X7_47 : Cond.methodLink RX7 47 Lib.Math.min.name ∈ ev_ws ∧ Cond.static Lib.Math.min.name ∈ ev_ws ∧ Cond.initialized "java/lang/Math" ∈ ev_ws ∧ Cond.code Lib.Math.min.name Lib.Math.min.code 2 (some .int) ∈ ev_ws := ⟨ev_at 421 (by decide +kernel) rfl, ev_at 422 (by decide +kernel) rfl, ev_at 73 (by decide +kernel) rfl, ev_at 423 (by decide +kernel) rfl⟩
theorem k_X7_50 : Cond.constant RX7 50 (nI 1073741823) ∈ ev_ws := ev_at 424 (by decide +kernel) rfl
theorem cv_X7_51 : ev_cv RX7 51 m_X7_digitAt 1 := ⟨ev_at 461 (by decide +kernel) rfl, ev_at 463 (by decide +kernel) rfl, ev_at 4 (by decide +kernel) rfl, ev_at 64 (by decide +kernel) rfl, cd_X7_digitAt, ⟨by decide +kernel, by decide +kernel, by decide +kernel⟩⟩
theorem oi_X8_1 : Cond.methodLink RX8 1 Lib.objectInit ∈ ev_ws ∧ Cond.instanceMethod Lib.objectInit ∈ ev_ws ∧ Cond.code Lib.objectInit ⟨#[0xb1]⟩ 1 none ∈ ev_ws := ⟨ev_at 82 (by decide +kernel) rfl, ev_at 83 (by decide +kernel) rfl, ev_at 84 rfl rfl⟩
theorem n_X8_7 : ev_nw RX8 7 3 4 [.null, .null, .null, .int 0] := ⟨_, _, rfl, ev_at 85 (by decide +kernel) rfl, ev_at 86 (by decide +kernel) rfl, ev_at 60 (by decide +kernel) rfl, tyX5, tyX5_ok, by decide +kernel⟩
theorem ci_X8_9 : ev_ci RX8 9 m_X5_init 0 := ⟨ev_at 87 (by decide +kernel) rfl, ev_at 88 (by decide +kernel) rfl, ev_at 60 (by decide +kernel) rfl, cd_X5_init, by decide +kernel, rfl, ⟨by decide +kernel, by decide +kernel, by decide +kernel⟩⟩
theorem pF_X8_10 : ev_fF RX8 10 6 0 (.object "IndexBureau$Shares") := ⟨_, _, _, rfl, by decide, ev_at 260 (by decide +kernel) rfl, rfl, by decide +kernel, rfl⟩
theorem pF_X8_16 : ev_fF RX8 16 6 1 (.object "IndexBureau$Shares") := ⟨_, _, _, rfl, by decide, ev_at 261 (by decide +kernel) rfl, rfl, by decide +kernel, rfl⟩
theorem n_X8_19 : ev_nw RX8 19 0 9 [.null, .null, .null, .null, .null, .null, .null, .int 0, .int 0] := ⟨_, _, rfl, ev_at 124 (by decide +kernel) rfl, ev_at 125 (by decide +kernel) rfl, ev_at 62 (by decide +kernel) rfl, tyX0, tyX0_ok, by decide +kernel⟩
theorem cin_X8_21 : ev_cin RX8 21 m_X0_init 0 := ⟨"IndexBureau", ev_an 126 (by decide +kernel) rfl, ev_at 127 (by decide +kernel) rfl, ev_at 62 (by decide +kernel) rfl, cd_X0_init, by decide +kernel, rfl, ⟨by decide +kernel, by decide +kernel, by decide +kernel⟩⟩
theorem pF_X8_22 : ev_fF RX8 22 6 2 (.object "IndexBureau$Agenda") := ⟨_, _, _, rfl, by decide, ev_at 262 (by decide +kernel) rfl, rfl, by decide +kernel, rfl⟩
theorem n_X8_26 : ev_nw RX8 26 1 9 [.null, .null, .null, .null, .null, .null, .null, .null, .null] := ⟨_, _, rfl, ev_at 166 (by decide +kernel) rfl, ev_at 167 (by decide +kernel) rfl, ev_at 63 (by decide +kernel) rfl, tyX1, tyX1_ok, by decide +kernel⟩
theorem cin_X8_28 : ev_cin RX8 28 m_X1_init 0 := ⟨"IndexBureau", ev_an 168 (by decide +kernel) rfl, ev_at 169 (by decide +kernel) rfl, ev_at 63 (by decide +kernel) rfl, cd_X1_init, by decide +kernel, rfl, ⟨by decide +kernel, by decide +kernel, by decide +kernel⟩⟩
theorem pF_X8_29 : ev_fF RX8 29 6 3 (.object "IndexBureau$Desk") := ⟨_, _, _, rfl, by decide, ev_at 263 (by decide +kernel) rfl, rfl, by decide +kernel, rfl⟩
theorem n_X8_33 : ev_nw RX8 33 4 3 [.null, .null, .int 0] := ⟨_, _, rfl, ev_at 218 (by decide +kernel) rfl, ev_at 219 (by decide +kernel) rfl, ev_at 65 (by decide +kernel) rfl, tyX6, tyX6_ok, by decide +kernel⟩
theorem cin_X8_35 : ev_cin RX8 35 m_X6_init 0 := ⟨"IndexBureau", ev_an 220 (by decide +kernel) rfl, ev_at 221 (by decide +kernel) rfl, ev_at 65 (by decide +kernel) rfl, cd_X6_init, by decide +kernel, rfl, ⟨by decide +kernel, by decide +kernel, by decide +kernel⟩⟩
theorem pF_X8_36 : ev_fF RX8 36 6 4 (.object "IndexBureau$Text") := ⟨_, _, _, rfl, by decide, ev_at 264 (by decide +kernel) rfl, rfl, by decide +kernel, rfl⟩
theorem n_X8_40 : ev_nw RX8 40 2 2 [.null, .null] := ⟨_, _, rfl, ev_at 239 (by decide +kernel) rfl, ev_at 240 (by decide +kernel) rfl, ev_at 66 (by decide +kernel) rfl, tyX2, tyX2_ok, by decide +kernel⟩
theorem cin_X8_42 : ev_cin RX8 42 m_X2_init 0 := ⟨"IndexBureau", ev_an 241 (by decide +kernel) rfl, ev_at 242 (by decide +kernel) rfl, ev_at 66 (by decide +kernel) rfl, cd_X2_init, by decide +kernel, rfl, ⟨by decide +kernel, by decide +kernel, by decide +kernel⟩⟩
theorem pF_X8_43 : ev_fF RX8 43 6 5 (.object "IndexBureau$Fraction") := ⟨_, _, _, rfl, by decide, ev_at 265 (by decide +kernel) rfl, rfl, by decide +kernel, rfl⟩
theorem pF_X8_47 : ev_fF RX8 47 6 6 (.object "IndexBureau$Fraction") := ⟨_, _, _, rfl, by decide, ev_at 266 (by decide +kernel) rfl, rfl, by decide +kernel, rfl⟩
theorem pF_X8_50 : ev_fF RX8 50 6 7 (.object "IndexBureau$Fraction") := ⟨_, _, _, rfl, by decide, ev_at 267 (by decide +kernel) rfl, rfl, by decide +kernel, rfl⟩
theorem pF_X8_53 : ev_fF RX8 53 6 8 (.object "IndexBureau$Fraction") := ⟨_, _, _, rfl, by decide, ev_at 268 (by decide +kernel) rfl, rfl, by decide +kernel, rfl⟩
theorem pF_X8_56 : ev_fF RX8 56 6 9 (.object "IndexBureau$Fraction") := ⟨_, _, _, rfl, by decide, ev_at 269 (by decide +kernel) rfl, rfl, by decide +kernel, rfl⟩
theorem pF_X8_59 : ev_fF RX8 59 6 10 (.array .long) := ⟨_, _, _, rfl, by decide, ev_at 270 (by decide +kernel) rfl, rfl, by decide +kernel, rfl⟩
theorem p_X8_63 : ev_fp RX8 63 6 11 .int := ⟨_, _, _, rfl, by decide, ev_at 271 (by decide +kernel) rfl, rfl, by decide +kernel⟩
theorem p_X8_67 : ev_fp RX8 67 6 12 .boolean := ⟨_, _, _, rfl, by decide, ev_at 272 (by decide +kernel) rfl, rfl, by decide +kernel⟩
theorem p_X8_71 : ev_fp RX8 71 6 13 .boolean := ⟨_, _, _, rfl, by decide, ev_at 273 (by decide +kernel) rfl, rfl, by decide +kernel⟩
theorem cs_X8_74 : ev_cs RX8 74 m_X8_refuseUnknown 2 := ⟨ev_at 572 (by decide +kernel) rfl, ev_at 573 (by decide +kernel) rfl, ev_at 59 (by decide +kernel) rfl, cd_X8_refuseUnknown, ⟨by decide +kernel, by decide +kernel, by decide +kernel⟩⟩
theorem f_X8_10 : ev_fl RX8 10 6 0 := ⟨_, _, _, rfl, by decide, ev_at 260 (by decide +kernel) rfl⟩
theorem cv_X8_78 : ev_cv RX8 78 m_X5_isMember 1 := ⟨ev_at 494 (by decide +kernel) rfl, ev_at 377 (by decide +kernel) rfl, ev_at 378 (by decide +kernel) rfl, ev_at 60 (by decide +kernel) rfl, cd_X5_isMember, ⟨by decide +kernel, by decide +kernel, by decide +kernel⟩⟩
theorem cs_X8_82 : ev_cs RX8 82 m_X5_fits 2 := ⟨ev_at 653 (by decide +kernel) rfl, ev_at 654 (by decide +kernel) rfl, ev_at 60 (by decide +kernel) rfl, cd_X5_fits, ⟨by decide +kernel, by decide +kernel, by decide +kernel⟩⟩
theorem f_X8_86 : ev_fl RX8 86 3 0 := ⟨_, _, _, rfl, by decide, ev_at 104 (by decide +kernel) rfl⟩
theorem k_X8_90 : Cond.constant RX8 90 (nI 1000000) ∈ ev_ws := ev_at 672 (by decide +kernel) rfl
theorem p_X8_94 : ev_fp RX8 94 3 3 .int := ⟨_, _, _, rfl, by decide, ev_at 112 (by decide +kernel) rfl, rfl, by decide +kernel⟩
theorem cv_X8_97 : ev_cv RX8 97 m_X5_resetFactors 0 := ⟨ev_at 673 (by decide +kernel) rfl, ev_at 97 (by decide +kernel) rfl, ev_at 98 (by decide +kernel) rfl, ev_at 60 (by decide +kernel) rfl, cd_X5_resetFactors, ⟨by decide +kernel, by decide +kernel, by decide +kernel⟩⟩
theorem f_X8_29 : ev_fl RX8 29 6 3 := ⟨_, _, _, rfl, by decide, ev_at 263 (by decide +kernel) rfl⟩
theorem f_X8_43 : ev_fl RX8 43 6 5 := ⟨_, _, _, rfl, by decide, ev_at 265 (by decide +kernel) rfl⟩
theorem cv_X8_100 : ev_cv RX8 100 m_X1_addUp 2 := ⟨ev_at 355 (by decide +kernel) rfl, ev_at 356 (by decide +kernel) rfl, ev_at 357 (by decide +kernel) rfl, ev_at 63 (by decide +kernel) rfl, cd_X1_addUp, ⟨by decide +kernel, by decide +kernel, by decide +kernel⟩⟩
theorem f_X8_104 : ev_fl RX8 104 2 1 := ⟨_, _, _, rfl, by decide, ev_at 253 (by decide +kernel) rfl⟩
theorem cv_X8_108 : ev_cv RX8 108 m_X1_scale 2 := ⟨ev_at 427 (by decide +kernel) rfl, ev_at 396 (by decide +kernel) rfl, ev_at 397 (by decide +kernel) rfl, ev_at 63 (by decide +kernel) rfl, cd_X1_scale, ⟨by decide +kernel, by decide +kernel, by decide +kernel⟩⟩
theorem f_X8_112 : ev_fl RX8 112 2 0 := ⟨_, _, _, rfl, by decide, ev_at 249 (by decide +kernel) rfl⟩
theorem cv_X8_115 : ev_cv RX8 115 m_X1_cancel 2 := ⟨ev_at 504 (by decide +kernel) rfl, ev_at 505 (by decide +kernel) rfl, ev_at 506 (by decide +kernel) rfl, ev_at 63 (by decide +kernel) rfl, cd_X1_cancel, ⟨by decide +kernel, by decide +kernel, by decide +kernel⟩⟩
theorem f_X8_22 : ev_fl RX8 22 6 2 := ⟨_, _, _, rfl, by decide, ev_at 262 (by decide +kernel) rfl⟩
theorem cv_X8_119 : ev_cv RX8 119 m_X0_forget 0 := ⟨ev_at 674 (by decide +kernel) rfl, ev_at 675 (by decide +kernel) rfl, ev_at 676 (by decide +kernel) rfl, ev_at 62 (by decide +kernel) rfl, cd_X0_forget, ⟨by decide +kernel, by decide +kernel, by decide +kernel⟩⟩
theorem f_X8_67 : ev_fl RX8 67 6 12 := ⟨_, _, _, rfl, by decide, ev_at 272 (by decide +kernel) rfl⟩
theorem f_X8_94 : ev_fl RX8 94 3 3 := ⟨_, _, _, rfl, by decide, ev_at 112 (by decide +kernel) rfl⟩
theorem cs_X8_124 : ev_cs RX8 124 m_X5_has 1 := ⟨ev_at 311 (by decide +kernel) rfl, ev_at 312 (by decide +kernel) rfl, ev_at 60 (by decide +kernel) rfl, cd_X5_has, ⟨by decide +kernel, by decide +kernel, by decide +kernel⟩⟩
theorem cv_X8_127 : ev_cv RX8 127 m_X0_isFull 0 := ⟨ev_at 314 (by decide +kernel) rfl, ev_at 315 (by decide +kernel) rfl, ev_at 316 (by decide +kernel) rfl, ev_at 62 (by decide +kernel) rfl, cd_X0_isFull, ⟨by decide +kernel, by decide +kernel, by decide +kernel⟩⟩
theorem cv_X8_131 : ev_cv RX8 131 m_X0_note 5 := ⟨ev_at 318 (by decide +kernel) rfl, ev_at 319 (by decide +kernel) rfl, ev_at 320 (by decide +kernel) rfl, ev_at 62 (by decide +kernel) rfl, cd_X0_note, ⟨by decide +kernel, by decide +kernel, by decide +kernel⟩⟩
theorem f_X8_63 : ev_fl RX8 63 6 11 := ⟨_, _, _, rfl, by decide, ev_at 271 (by decide +kernel) rfl⟩
theorem cv_X8_138 : ev_cv RX8 138 m_X0_arrange 0 := ⟨ev_at 701 (by decide +kernel) rfl, ev_at 702 (by decide +kernel) rfl, ev_at 703 (by decide +kernel) rfl, ev_at 62 (by decide +kernel) rfl, cd_X0_arrange, ⟨by decide +kernel, by decide +kernel, by decide +kernel⟩⟩
theorem f_X8_141 : ev_fl RX8 141 0 8 := ⟨_, _, _, rfl, by decide, ev_at 146 (by decide +kernel) rfl⟩
theorem f_X8_144 : ev_fl RX8 144 0 6 := ⟨_, _, _, rfl, by decide, ev_at 143 (by decide +kernel) rfl⟩
theorem f_X8_148 : ev_fl RX8 148 0 5 := ⟨_, _, _, rfl, by decide, ev_at 141 (by decide +kernel) rfl⟩
theorem cv_X8_151 : ev_cv RX8 151 m_X8_perform 1 := ⟨ev_at 709 (by decide +kernel) rfl, ev_at 711 (by decide +kernel) rfl, ev_at 11 (by decide +kernel) rfl, ev_at 59 (by decide +kernel) rfl, cd_X8_perform, ⟨by decide +kernel, by decide +kernel, by decide +kernel⟩⟩
theorem f_X8_59 : ev_fl RX8 59 6 10 := ⟨_, _, _, rfl, by decide, ev_at 270 (by decide +kernel) rfl⟩
theorem cv_X8_155 : ev_cv RX8 155 m_X8_roundedLevel 0 := ⟨ev_at 347 (by decide +kernel) rfl, ev_at 349 (by decide +kernel) rfl, ev_at 0 (by decide +kernel) rfl, ev_at 59 (by decide +kernel) rfl, cd_X8_roundedLevel, ⟨by decide +kernel, by decide +kernel, by decide +kernel⟩⟩
theorem cv_X8_159 : ev_cv RX8 159 m_X0_wasArranged 1 := ⟨ev_at 326 (by decide +kernel) rfl, ev_at 327 (by decide +kernel) rfl, ev_at 328 (by decide +kernel) rfl, ev_at 62 (by decide +kernel) rfl, cd_X0_wasArranged, ⟨by decide +kernel, by decide +kernel, by decide +kernel⟩⟩
theorem k_X8_162 : Cond.constantLong RX8 162 (-1) ∈ ev_ws := ev_at 342 (by decide +kernel) rfl
theorem f_X8_50 : ev_fl RX8 50 6 7 := ⟨_, _, _, rfl, by decide, ev_at 267 (by decide +kernel) rfl⟩
theorem k_X8_164 : Cond.constant RX8 164 (nI 1000000000) ∈ ev_ws := ev_at 495 (by decide +kernel) rfl
theorem cv_X8_165 : ev_cv RX8 165 m_X1_weigh 5 := ⟨ev_at 496 (by decide +kernel) rfl, ev_at 497 (by decide +kernel) rfl, ev_at 498 (by decide +kernel) rfl, ev_at 63 (by decide +kernel) rfl, cd_X1_weigh, ⟨by decide +kernel, by decide +kernel, by decide +kernel⟩⟩
theorem f_X8_169 : ev_fl RX8 169 1 1 := ⟨_, _, _, rfl, by decide, ev_at 190 (by decide +kernel) rfl⟩
theorem f_X8_172 : ev_fl RX8 172 1 2 := ⟨_, _, _, rfl, by decide, ev_at 192 (by decide +kernel) rfl⟩
theorem cv_X8_175 : ev_cv RX8 175 m_X1_divide 2 := ⟨ev_at 430 (by decide +kernel) rfl, ev_at 431 (by decide +kernel) rfl, ev_at 432 (by decide +kernel) rfl, ev_at 63 (by decide +kernel) rfl, cd_X1_divide, ⟨by decide +kernel, by decide +kernel, by decide +kernel⟩⟩
theorem f_X8_178 : ev_fl RX8 178 1 0 := ⟨_, _, _, rfl, by decide, ev_at 188 (by decide +kernel) rfl⟩
theorem cv_X8_181 : ev_cv RX8 181 m_X7_asLong 0 := ⟨ev_at 483 (by decide +kernel) rfl, ev_at 484 (by decide +kernel) rfl, ev_at 485 (by decide +kernel) rfl, ev_at 64 (by decide +kernel) rfl, cd_X7_asLong, ⟨by decide +kernel, by decide +kernel, by decide +kernel⟩⟩
theorem cv_X8_186 : ev_cv RX8 186 m_X8_exactLevel 0 := ⟨ev_at 351 (by decide +kernel) rfl, ev_at 353 (by decide +kernel) rfl, ev_at 1 (by decide +kernel) rfl, ev_at 59 (by decide +kernel) rfl, cd_X8_exactLevel, ⟨by decide +kernel, by decide +kernel, by decide +kernel⟩⟩
theorem f_X8_56 : ev_fl RX8 56 6 9 := ⟨_, _, _, rfl, by decide, ev_at 269 (by decide +kernel) rfl⟩
theorem cv_X8_189 : ev_cv RX8 189 m_X2_copy 1 := ⟨ev_at 515 (by decide +kernel) rfl, ev_at 516 (by decide +kernel) rfl, ev_at 517 (by decide +kernel) rfl, ev_at 66 (by decide +kernel) rfl, cd_X2_copy, ⟨by decide +kernel, by decide +kernel, by decide +kernel⟩⟩
theorem f_X8_193 : ev_fl RX8 193 3 1 := ⟨_, _, _, rfl, by decide, ev_at 107 (by decide +kernel) rfl⟩
theorem f_X8_196 : ev_fl RX8 196 3 2 := ⟨_, _, _, rfl, by decide, ev_at 110 (by decide +kernel) rfl⟩
theorem cv_X8_199 : ev_cv RX8 199 m_X2_become 2 := ⟨ev_at 520 (by decide +kernel) rfl, ev_at 360 (by decide +kernel) rfl, ev_at 361 (by decide +kernel) rfl, ev_at 66 (by decide +kernel) rfl, cd_X2_become, ⟨by decide +kernel, by decide +kernel, by decide +kernel⟩⟩
theorem f_X8_36 : ev_fl RX8 36 6 4 := ⟨_, _, _, rfl, by decide, ev_at 264 (by decide +kernel) rfl⟩
theorem cv_X8_203 : ev_cv RX8 203 m_X6_write 1 := ⟨ev_at 521 (by decide +kernel) rfl, ev_at 522 (by decide +kernel) rfl, ev_at 523 (by decide +kernel) rfl, ev_at 65 (by decide +kernel) rfl, cd_X6_write, ⟨by decide +kernel, by decide +kernel, by decide +kernel⟩⟩
theorem f_X8_206 : ev_fl RX8 206 4 2 := ⟨_, _, _, rfl, by decide, ev_at 230 (by decide +kernel) rfl⟩
theorem f_X8_209 : ev_fl RX8 209 4 0 := ⟨_, _, _, rfl, by decide, ev_at 227 (by decide +kernel) rfl⟩
theorem cv_X8_213 : ev_cv RX8 213 m_X7_binaryDigits 0 := ⟨ev_at 554 (by decide +kernel) rfl, ev_at 555 (by decide +kernel) rfl, ev_at 556 (by decide +kernel) rfl, ev_at 64 (by decide +kernel) rfl, cd_X7_binaryDigits, ⟨by decide +kernel, by decide +kernel, by decide +kernel⟩⟩
theorem f_X8_71 : ev_fl RX8 71 6 13 := ⟨_, _, _, rfl, by decide, ev_at 273 (by decide +kernel) rfl⟩
theorem f_X8_220 : ev_fl RX8 220 0 0 := ⟨_, _, _, rfl, by decide, ev_at 131 (by decide +kernel) rfl⟩
theorem f_X8_223 : ev_fl RX8 223 0 2 := ⟨_, _, _, rfl, by decide, ev_at 135 (by decide +kernel) rfl⟩
theorem f_X8_16 : ev_fl RX8 16 6 1 := ⟨_, _, _, rfl, by decide, ev_at 261 (by decide +kernel) rfl⟩
theorem cv_X8_226 : ev_cv RX8 226 m_X5_copy 1 := ⟨ev_at 713 (by decide +kernel) rfl, ev_at 714 (by decide +kernel) rfl, ev_at 715 (by decide +kernel) rfl, ev_at 60 (by decide +kernel) rfl, cd_X5_copy, ⟨by decide +kernel, by decide +kernel, by decide +kernel⟩⟩
theorem f_X8_229 : ev_fl RX8 229 0 1 := ⟨_, _, _, rfl, by decide, ev_at 133 (by decide +kernel) rfl⟩
theorem f_X8_232 : ev_fl RX8 232 0 3 := ⟨_, _, _, rfl, by decide, ev_at 137 (by decide +kernel) rfl⟩
theorem f_X8_235 : ev_fl RX8 235 0 4 := ⟨_, _, _, rfl, by decide, ev_at 139 (by decide +kernel) rfl⟩
theorem cv_X8_238 : ev_cv RX8 238 m_X5_change 5 := ⟨ev_at 718 (by decide +kernel) rfl, ev_at 719 (by decide +kernel) rfl, ev_at 720 (by decide +kernel) rfl, ev_at 60 (by decide +kernel) rfl, cd_X5_change, ⟨by decide +kernel, by decide +kernel, by decide +kernel⟩⟩
theorem cv_X8_241 : ev_cv RX8 241 m_X8_findNextDivisor 0 := ⟨ev_at 781 (by decide +kernel) rfl, ev_at 783 (by decide +kernel) rfl, ev_at 23 (by decide +kernel) rfl, ev_at 59 (by decide +kernel) rfl, cd_X8_findNextDivisor, ⟨by decide +kernel, by decide +kernel, by decide +kernel⟩⟩
theorem f_X8_47 : ev_fl RX8 47 6 6 := ⟨_, _, _, rfl, by decide, ev_at 266 (by decide +kernel) rfl⟩
theorem cv_X8_244 : ev_cv RX8 244 m_X2_mostDigits 0 := ⟨ev_at 785 (by decide +kernel) rfl, ev_at 786 (by decide +kernel) rfl, ev_at 787 (by decide +kernel) rfl, ev_at 66 (by decide +kernel) rfl, cd_X2_mostDigits, ⟨by decide +kernel, by decide +kernel, by decide +kernel⟩⟩
theorem f_X8_53 : ev_fl RX8 53 6 8 := ⟨_, _, _, rfl, by decide, ev_at 268 (by decide +kernel) rfl⟩
theorem cv_X8_249 : ev_cv RX8 249 m_X1_sameLevel 4 := ⟨ev_at 791 (by decide +kernel) rfl, ev_at 792 (by decide +kernel) rfl, ev_at 793 (by decide +kernel) rfl, ev_at 63 (by decide +kernel) rfl, cd_X1_sameLevel, ⟨by decide +kernel, by decide +kernel, by decide +kernel⟩⟩
theorem cv_X8_253 : ev_cv RX8 253 m_X8_isCapped 1 := ⟨ev_at 795 (by decide +kernel) rfl, ev_at 797 (by decide +kernel) rfl, ev_at 24 (by decide +kernel) rfl, ev_at 59 (by decide +kernel) rfl, cd_X8_isCapped, ⟨by decide +kernel, by decide +kernel, by decide +kernel⟩⟩
theorem cv_X8_256 : ev_cv RX8 256 m_X1_multiply 2 := ⟨ev_at 425 (by decide +kernel) rfl, ev_at 414 (by decide +kernel) rfl, ev_at 415 (by decide +kernel) rfl, ev_at 63 (by decide +kernel) rfl, cd_X1_multiply, ⟨by decide +kernel, by decide +kernel, by decide +kernel⟩⟩
theorem cv_X8_259 : ev_cv RX8 259 m_X7_compareWith 1 := ⟨ev_at 799 (by decide +kernel) rfl, ev_at 439 (by decide +kernel) rfl, ev_at 440 (by decide +kernel) rfl, ev_at 64 (by decide +kernel) rfl, cd_X7_compareWith, ⟨by decide +kernel, by decide +kernel, by decide +kernel⟩⟩
theorem cv_X8_263 : ev_cv RX8 263 m_X5_hasFactorOne 1 := ⟨ev_at 800 (by decide +kernel) rfl, ev_at 801 (by decide +kernel) rfl, ev_at 802 (by decide +kernel) rfl, ev_at 60 (by decide +kernel) rfl, cd_X5_hasFactorOne, ⟨by decide +kernel, by decide +kernel, by decide +kernel⟩⟩
theorem k_X8_266 : Cond.constantLong RX8 266 (lN 200) ∈ ev_ws := ev_at 426 (by decide +kernel) rfl
theorem cv_X8_268 : ev_cv RX8 268 m_X7_add 1 := ⟨ev_at 428 (by decide +kernel) rfl, ev_at 418 (by decide +kernel) rfl, ev_at 419 (by decide +kernel) rfl, ev_at 64 (by decide +kernel) rfl, cd_X7_add, ⟨by decide +kernel, by decide +kernel, by decide +kernel⟩⟩
theorem k_X8_272 : Cond.constantLong RX8 272 (lN 2) ∈ ev_ws := ev_at 429 (by decide +kernel) rfl
theorem cv_X8_274 : ev_cv RX8 274 m_X7_isShort 0 := ⟨ev_at 478 (by decide +kernel) rfl, ev_at 479 (by decide +kernel) rfl, ev_at 480 (by decide +kernel) rfl, ev_at 64 (by decide +kernel) rfl, cd_X7_isShort, ⟨by decide +kernel, by decide +kernel, by decide +kernel⟩⟩
theorem k_X8_277 : Cond.constantLong RX8 277 (lN 999999999999999999) ∈ ev_ws := ev_at 482 (by decide +kernel) rfl
theorem mx_X8_279 : Cond.methodLink RX8 279 Lib.MathLoose.min_long.x ∈ ev_ws ∧ Cond.static Lib.MathLoose.min_long.x ∈ ev_ws ∧ Cond.initialized "java/lang/Math" ∈ ev_ws ∧ Cond.code Lib.MathLoose.min_long.x Lib.MathLoose.min_long.code 4 (some .long) ∈ ev_ws := ⟨ev_at 487 (by decide +kernel) rfl, ev_at 488 (by decide +kernel) rfl, ev_at 73 (by decide +kernel) rfl, ev_at 489 (by decide +kernel) rfl⟩
theorem oi_X9_1 : Cond.methodLink RX9 1 Lib.objectInit ∈ ev_ws ∧ Cond.instanceMethod Lib.objectInit ∈ ev_ws ∧ Cond.code Lib.objectInit ⟨#[0xb1]⟩ 1 none ∈ ev_ws := ⟨ev_at 809 (by decide +kernel) rfl, ev_at 83 (by decide +kernel) rfl, ev_at 84 rfl rfl⟩
theorem pF_X9_7 : ev_fF RX9 7 7 0 (.array .int) := ⟨_, _, _, rfl, by decide, ev_at 815 (by decide +kernel) rfl, rfl, by decide +kernel, rfl⟩
theorem pF_X9_13 : ev_fF RX9 13 7 1 (.array .int) := ⟨_, _, _, rfl, by decide, ev_at 816 (by decide +kernel) rfl, rfl, by decide +kernel, rfl⟩
theorem pF_X9_16 : ev_fF RX9 16 7 2 (.array .int) := ⟨_, _, _, rfl, by decide, ev_at 817 (by decide +kernel) rfl, rfl, by decide +kernel, rfl⟩
theorem pF_X9_19 : ev_fF RX9 19 7 3 (.array .int) := ⟨_, _, _, rfl, by decide, ev_at 818 (by decide +kernel) rfl, rfl, by decide +kernel, rfl⟩
theorem pF_X9_22 : ev_fF RX9 22 7 4 (.array .int) := ⟨_, _, _, rfl, by decide, ev_at 819 (by decide +kernel) rfl, rfl, by decide +kernel, rfl⟩
theorem pF_X9_25 : ev_fF RX9 25 7 7 (.array .int) := ⟨_, _, _, rfl, by decide, ev_at 822 (by decide +kernel) rfl, rfl, by decide +kernel, rfl⟩
theorem pF_X9_28 : ev_fF RX9 28 7 8 (.array .int) := ⟨_, _, _, rfl, by decide, ev_at 823 (by decide +kernel) rfl, rfl, by decide +kernel, rfl⟩
theorem pF_X9_31 : ev_fF RX9 31 7 9 (.array .int) := ⟨_, _, _, rfl, by decide, ev_at 824 (by decide +kernel) rfl, rfl, by decide +kernel, rfl⟩
theorem pF_X9_34 : ev_fF RX9 34 7 12 (.array .int) := ⟨_, _, _, rfl, by decide, ev_at 827 (by decide +kernel) rfl, rfl, by decide +kernel, rfl⟩
theorem pF_X9_37 : ev_fF RX9 37 7 13 (.array .int) := ⟨_, _, _, rfl, by decide, ev_at 828 (by decide +kernel) rfl, rfl, by decide +kernel, rfl⟩
theorem pF_X9_40 : ev_fF RX9 40 7 14 (.array .int) := ⟨_, _, _, rfl, by decide, ev_at 829 (by decide +kernel) rfl, rfl, by decide +kernel, rfl⟩
theorem pF_X9_43 : ev_fF RX9 43 7 15 (.array .int) := ⟨_, _, _, rfl, by decide, ev_at 830 (by decide +kernel) rfl, rfl, by decide +kernel, rfl⟩
theorem pF_X9_46 : ev_fF RX9 46 7 16 (.array .int) := ⟨_, _, _, rfl, by decide, ev_at 831 (by decide +kernel) rfl, rfl, by decide +kernel, rfl⟩
theorem pF_X9_49 : ev_fF RX9 49 7 18 (.array .int) := ⟨_, _, _, rfl, by decide, ev_at 833 (by decide +kernel) rfl, rfl, by decide +kernel, rfl⟩
theorem pF_X9_52 : ev_fF RX9 52 7 19 (.array .int) := ⟨_, _, _, rfl, by decide, ev_at 834 (by decide +kernel) rfl, rfl, by decide +kernel, rfl⟩
theorem pF_X9_55 : ev_fF RX9 55 7 21 (.array .long) := ⟨_, _, _, rfl, by decide, ev_at 836 (by decide +kernel) rfl, rfl, by decide +kernel, rfl⟩
theorem pF_X9_59 : ev_fF RX9 59 7 23 (.array .int) := ⟨_, _, _, rfl, by decide, ev_at 838 (by decide +kernel) rfl, rfl, by decide +kernel, rfl⟩
theorem f_X9_16 : ev_fl RX9 16 7 2 := ⟨_, _, _, rfl, by decide, ev_at 817 (by decide +kernel) rfl⟩
theorem f_X9_19 : ev_fl RX9 19 7 3 := ⟨_, _, _, rfl, by decide, ev_at 818 (by decide +kernel) rfl⟩
theorem f_X9_22 : ev_fl RX9 22 7 4 := ⟨_, _, _, rfl, by decide, ev_at 819 (by decide +kernel) rfl⟩
theorem cv_X9_62 : ev_cv RX9 62 m_X9_set 2 := ⟨ev_at 810 (by decide +kernel) rfl, ev_at 812 (by decide +kernel) rfl, ev_at 25 (by decide +kernel) rfl, ev_at 67 (by decide +kernel) rfl, cd_X9_set, ⟨by decide +kernel, by decide +kernel, by decide +kernel⟩⟩
theorem f_X9_66 : ev_fl RX9 66 7 24 := ⟨_, _, _, rfl, by decide, ev_at 839 (by decide +kernel) rfl⟩
theorem f_X9_70 : ev_fl RX9 70 7 5 := ⟨_, _, _, rfl, by decide, ev_at 820 (by decide +kernel) rfl⟩
theorem f_X9_13 : ev_fl RX9 13 7 1 := ⟨_, _, _, rfl, by decide, ev_at 816 (by decide +kernel) rfl⟩
theorem f_X9_7 : ev_fl RX9 7 7 0 := ⟨_, _, _, rfl, by decide, ev_at 815 (by decide +kernel) rfl⟩
theorem k_X9_73 : Cond.constantLong RX9 73 (lN 1073741824) ∈ ev_ws := ev_at 814 (by decide +kernel) rfl
theorem cv_X9_75 : ev_cv RX9 75 m_X9_limb 2 := ⟨ev_at 940 (by decide +kernel) rfl, ev_at 942 (by decide +kernel) rfl, ev_at 32 (by decide +kernel) rfl, ev_at 67 (by decide +kernel) rfl, cd_X9_limb, ⟨by decide +kernel, by decide +kernel, by decide +kernel⟩⟩
theorem k_X9_79 : Cond.constant RX9 79 (nI 1073741823) ∈ ev_ws := ev_at 944 (by decide +kernel) rfl
theorem k_X9_80 : Cond.constantLong RX9 80 (lN 1073741823) ∈ ev_ws := ev_at 931 (by decide +kernel) rfl
theorem cv_X9_82 : ev_cv RX9 82 m_X9_trim 1 := ⟨ev_at 932 (by decide +kernel) rfl, ev_at 934 (by decide +kernel) rfl, ev_at 30 (by decide +kernel) rfl, ev_at 67 (by decide +kernel) rfl, cd_X9_trim, ⟨by decide +kernel, by decide +kernel, by decide +kernel⟩⟩
theorem k_X9_86 : Cond.constant RX9 86 (nI 1073741824) ∈ ev_ws := ev_at 973 (by decide +kernel) rfl
theorem cv_X9_87 : ev_cv RX9 87 m_X9_bits 1 := ⟨ev_at 990 (by decide +kernel) rfl, ev_at 992 (by decide +kernel) rfl, ev_at 44 (by decide +kernel) rfl, ev_at 67 (by decide +kernel) rfl, cd_X9_bits, ⟨by decide +kernel, by decide +kernel, by decide +kernel⟩⟩
theorem cv_X9_91 : ev_cv RX9 91 m_X9_twice 2 := ⟨ev_at 978 (by decide +kernel) rfl, ev_at 980 (by decide +kernel) rfl, ev_at 41 (by decide +kernel) rfl, ev_at 67 (by decide +kernel) rfl, cd_X9_twice, ⟨by decide +kernel, by decide +kernel, by decide +kernel⟩⟩
theorem cv_X9_95 : ev_cv RX9 95 m_X9_compare 2 := ⟨ev_at 965 (by decide +kernel) rfl, ev_at 967 (by decide +kernel) rfl, ev_at 38 (by decide +kernel) rfl, ev_at 67 (by decide +kernel) rfl, cd_X9_compare, ⟨by decide +kernel, by decide +kernel, by decide +kernel⟩⟩
theorem cv_X9_98 : ev_cv RX9 98 m_X9_subtract 2 := ⟨ev_at 969 (by decide +kernel) rfl, ev_at 971 (by decide +kernel) rfl, ev_at 39 (by decide +kernel) rfl, ev_at 67 (by decide +kernel) rfl, cd_X9_subtract, ⟨by decide +kernel, by decide +kernel, by decide +kernel⟩⟩
theorem cv_X9_101 : ev_cv RX9 101 m_X9_copy 2 := ⟨ev_at 945 (by decide +kernel) rfl, ev_at 947 (by decide +kernel) rfl, ev_at 33 (by decide +kernel) rfl, ev_at 67 (by decide +kernel) rfl, cd_X9_copy, ⟨by decide +kernel, by decide +kernel, by decide +kernel⟩⟩
theorem cv_X9_104 : ev_cv RX9 104 m_X9_isEven 1 := ⟨ev_at 957 (by decide +kernel) rfl, ev_at 959 (by decide +kernel) rfl, ev_at 36 (by decide +kernel) rfl, ev_at 67 (by decide +kernel) rfl, cd_X9_isEven, ⟨by decide +kernel, by decide +kernel, by decide +kernel⟩⟩
theorem cv_X9_108 : ev_cv RX9 108 m_X9_half 1 := ⟨ev_at 961 (by decide +kernel) rfl, ev_at 963 (by decide +kernel) rfl, ev_at 37 (by decide +kernel) rfl, ev_at 67 (by decide +kernel) rfl, cd_X9_half, ⟨by decide +kernel, by decide +kernel, by decide +kernel⟩⟩
theorem cv_X9_111 : ev_cv RX9 111 m_X9_swap 0 := ⟨ev_at 974 (by decide +kernel) rfl, ev_at 976 (by decide +kernel) rfl, ev_at 40 (by decide +kernel) rfl, ev_at 67 (by decide +kernel) rfl, cd_X9_swap, ⟨by decide +kernel, by decide +kernel, by decide +kernel⟩⟩
theorem cv_X9_114 : ev_cv RX9 114 m_X9_common 2 := ⟨ev_at 953 (by decide +kernel) rfl, ev_at 955 (by decide +kernel) rfl, ev_at 35 (by decide +kernel) rfl, ev_at 67 (by decide +kernel) rfl, cd_X9_common, ⟨by decide +kernel, by decide +kernel, by decide +kernel⟩⟩
theorem cv_X9_117 : ev_cv RX9 117 m_X9_isOne 1 := ⟨ev_at 982 (by decide +kernel) rfl, ev_at 984 (by decide +kernel) rfl, ev_at 42 (by decide +kernel) rfl, ev_at 67 (by decide +kernel) rfl, cd_X9_isOne, ⟨by decide +kernel, by decide +kernel, by decide +kernel⟩⟩
theorem cv_X9_120 : ev_cv RX9 120 m_X9_quotient 4 := ⟨ev_at 986 (by decide +kernel) rfl, ev_at 988 (by decide +kernel) rfl, ev_at 43 (by decide +kernel) rfl, ev_at 67 (by decide +kernel) rfl, cd_X9_quotient, ⟨by decide +kernel, by decide +kernel, by decide +kernel⟩⟩
theorem cv_X9_124 : ev_cv RX9 124 m_X9_isMember 1 := ⟨ev_at 906 (by decide +kernel) rfl, ev_at 908 (by decide +kernel) rfl, ev_at 26 (by decide +kernel) rfl, ev_at 67 (by decide +kernel) rfl, cd_X9_isMember, ⟨by decide +kernel, by decide +kernel, by decide +kernel⟩⟩
theorem cv_X9_127 : ev_cv RX9 127 m_X9_plain 1 := ⟨ev_at 923 (by decide +kernel) rfl, ev_at 925 (by decide +kernel) rfl, ev_at 28 (by decide +kernel) rfl, ev_at 67 (by decide +kernel) rfl, cd_X9_plain, ⟨by decide +kernel, by decide +kernel, by decide +kernel⟩⟩
theorem cv_X9_131 : ev_cv RX9 131 m_X9_multiply 3 := ⟨ev_at 927 (by decide +kernel) rfl, ev_at 929 (by decide +kernel) rfl, ev_at 29 (by decide +kernel) rfl, ev_at 67 (by decide +kernel) rfl, cd_X9_multiply, ⟨by decide +kernel, by decide +kernel, by decide +kernel⟩⟩
theorem cv_X9_135 : ev_cv RX9 135 m_X9_add 2 := ⟨ev_at 936 (by decide +kernel) rfl, ev_at 938 (by decide +kernel) rfl, ev_at 31 (by decide +kernel) rfl, ev_at 67 (by decide +kernel) rfl, cd_X9_add, ⟨by decide +kernel, by decide +kernel, by decide +kernel⟩⟩
theorem cv_X9_138 : ev_cv RX9 138 m_X9_reduce 2 := ⟨ev_at 949 (by decide +kernel) rfl, ev_at 951 (by decide +kernel) rfl, ev_at 34 (by decide +kernel) rfl, ev_at 67 (by decide +kernel) rfl, cd_X9_reduce, ⟨by decide +kernel, by decide +kernel, by decide +kernel⟩⟩
theorem k_X9_141 : Cond.constant RX9 141 (nI 9999999) ∈ ev_ws := ev_at 905 (by decide +kernel) rfl
theorem cs_X9_142 : ev_cs RX9 142 m_X9_in 3 := ⟨ev_at 899 (by decide +kernel) rfl, ev_at 900 (by decide +kernel) rfl, ev_at 67 (by decide +kernel) rfl, cd_X9_in, ⟨by decide +kernel, by decide +kernel, by decide +kernel⟩⟩
theorem p_X9_66 : ev_fp RX9 66 7 24 .int := ⟨_, _, _, rfl, by decide, ev_at 839 (by decide +kernel) rfl, rfl, by decide +kernel⟩
theorem cs_X9_146 : ev_cs RX9 146 m_X9_fits 2 := ⟨ev_at 902 (by decide +kernel) rfl, ev_at 903 (by decide +kernel) rfl, ev_at 67 (by decide +kernel) rfl, cd_X9_fits, ⟨by decide +kernel, by decide +kernel, by decide +kernel⟩⟩
theorem f_X9_150 : ev_fl RX9 150 7 6 := ⟨_, _, _, rfl, by decide, ev_at 821 (by decide +kernel) rfl⟩
theorem k_X9_154 : Cond.constant RX9 154 (nI 1000000) ∈ ev_ws := ev_at 918 (by decide +kernel) rfl
theorem p_X9_70 : ev_fp RX9 70 7 5 .int := ⟨_, _, _, rfl, by decide, ev_at 820 (by decide +kernel) rfl, rfl, by decide +kernel⟩
theorem p_X9_150 : ev_fp RX9 150 7 6 .boolean := ⟨_, _, _, rfl, by decide, ev_at 821 (by decide +kernel) rfl, rfl, by decide +kernel⟩
theorem cv_X9_155 : ev_cv RX9 155 m_X9_sum 0 := ⟨ev_at 919 (by decide +kernel) rfl, ev_at 921 (by decide +kernel) rfl, ev_at 27 (by decide +kernel) rfl, ev_at 67 (by decide +kernel) rfl, cd_X9_sum, ⟨by decide +kernel, by decide +kernel, by decide +kernel⟩⟩
theorem cv_X9_158 : ev_cv RX9 158 m_X9_scale 2 := ⟨ev_at 994 (by decide +kernel) rfl, ev_at 996 (by decide +kernel) rfl, ev_at 45 (by decide +kernel) rfl, ev_at 67 (by decide +kernel) rfl, cd_X9_scale, ⟨by decide +kernel, by decide +kernel, by decide +kernel⟩⟩
theorem p_X9_161 : ev_fp RX9 161 7 11 .int := ⟨_, _, _, rfl, by decide, ev_at 826 (by decide +kernel) rfl, rfl, by decide +kernel⟩
theorem p_X9_164 : ev_fp RX9 164 7 17 .int := ⟨_, _, _, rfl, by decide, ev_at 832 (by decide +kernel) rfl, rfl, by decide +kernel⟩
theorem p_X9_167 : ev_fp RX9 167 7 20 .int := ⟨_, _, _, rfl, by decide, ev_at 835 (by decide +kernel) rfl, rfl, by decide +kernel⟩
theorem f_X9_161 : ev_fl RX9 161 7 11 := ⟨_, _, _, rfl, by decide, ev_at 826 (by decide +kernel) rfl⟩
theorem f_X9_34 : ev_fl RX9 34 7 12 := ⟨_, _, _, rfl, by decide, ev_at 827 (by decide +kernel) rfl⟩
theorem f_X9_37 : ev_fl RX9 37 7 13 := ⟨_, _, _, rfl, by decide, ev_at 828 (by decide +kernel) rfl⟩
theorem f_X9_40 : ev_fl RX9 40 7 14 := ⟨_, _, _, rfl, by decide, ev_at 829 (by decide +kernel) rfl⟩
theorem f_X9_43 : ev_fl RX9 43 7 15 := ⟨_, _, _, rfl, by decide, ev_at 830 (by decide +kernel) rfl⟩
theorem f_X9_46 : ev_fl RX9 46 7 16 := ⟨_, _, _, rfl, by decide, ev_at 831 (by decide +kernel) rfl⟩
theorem p_X9_170 : ev_fp RX9 170 7 10 .int := ⟨_, _, _, rfl, by decide, ev_at 825 (by decide +kernel) rfl, rfl, by decide +kernel⟩
theorem f_X9_25 : ev_fl RX9 25 7 7 := ⟨_, _, _, rfl, by decide, ev_at 822 (by decide +kernel) rfl⟩
theorem f_X9_28 : ev_fl RX9 28 7 8 := ⟨_, _, _, rfl, by decide, ev_at 823 (by decide +kernel) rfl⟩
theorem f_X9_31 : ev_fl RX9 31 7 9 := ⟨_, _, _, rfl, by decide, ev_at 824 (by decide +kernel) rfl⟩
theorem f_X9_170 : ev_fl RX9 170 7 10 := ⟨_, _, _, rfl, by decide, ev_at 825 (by decide +kernel) rfl⟩
theorem k_X9_173 : Cond.constantLong RX9 173 (lN 9999999) ∈ ev_ws := ev_at 1034 (by decide +kernel) rfl
theorem k_X9_175 : Cond.constantLong RX9 175 (lN 2) ∈ ev_ws := ev_at 1029 (by decide +kernel) rfl
theorem cs_X9_177 : ev_cs RX9 177 m_X9_rounded 2 := ⟨ev_at 1026 (by decide +kernel) rfl, ev_at 1027 (by decide +kernel) rfl, ev_at 67 (by decide +kernel) rfl, cd_X9_rounded, ⟨by decide +kernel, by decide +kernel, by decide +kernel⟩⟩
theorem cv_X9_181 : ev_cv RX9 181 m_X9_become 4 := ⟨ev_at 1030 (by decide +kernel) rfl, ev_at 1032 (by decide +kernel) rfl, ev_at 50 (by decide +kernel) rfl, ev_at 67 (by decide +kernel) rfl, cd_X9_become, ⟨by decide +kernel, by decide +kernel, by decide +kernel⟩⟩
theorem cv_X9_185 : ev_cv RX9 185 m_X9_count 1 := ⟨ev_at 1043 (by decide +kernel) rfl, ev_at 1045 (by decide +kernel) rfl, ev_at 53 (by decide +kernel) rfl, ev_at 67 (by decide +kernel) rfl, cd_X9_count, ⟨by decide +kernel, by decide +kernel, by decide +kernel⟩⟩
theorem k_X9_188 : Cond.constantLong RX9 188 (lN 100) ∈ ev_ws := ev_at 1051 (by decide +kernel) rfl
theorem cv_X9_190 : ev_cv RX9 190 m_X9_split 3 := ⟨ev_at 1022 (by decide +kernel) rfl, ev_at 1024 (by decide +kernel) rfl, ev_at 49 (by decide +kernel) rfl, ev_at 67 (by decide +kernel) rfl, cd_X9_split, ⟨by decide +kernel, by decide +kernel, by decide +kernel⟩⟩
theorem cv_X9_194 : ev_cv RX9 194 m_X9_rights 4 := ⟨ev_at 1035 (by decide +kernel) rfl, ev_at 1037 (by decide +kernel) rfl, ev_at 51 (by decide +kernel) rfl, ev_at 67 (by decide +kernel) rfl, cd_X9_rights, ⟨by decide +kernel, by decide +kernel, by decide +kernel⟩⟩
theorem cv_X9_198 : ev_cv RX9 198 m_X9_dividend 2 := ⟨ev_at 1039 (by decide +kernel) rfl, ev_at 1041 (by decide +kernel) rfl, ev_at 52 (by decide +kernel) rfl, ev_at 67 (by decide +kernel) rfl, cd_X9_dividend, ⟨by decide +kernel, by decide +kernel, by decide +kernel⟩⟩
theorem cv_X9_201 : ev_cv RX9 201 m_X9_cap 1 := ⟨ev_at 1047 (by decide +kernel) rfl, ev_at 1049 (by decide +kernel) rfl, ev_at 54 (by decide +kernel) rfl, ev_at 67 (by decide +kernel) rfl, cd_X9_cap, ⟨by decide +kernel, by decide +kernel, by decide +kernel⟩⟩
theorem cv_X9_204 : ev_cv RX9 204 m_X9_remember 0 := ⟨ev_at 1014 (by decide +kernel) rfl, ev_at 1016 (by decide +kernel) rfl, ev_at 47 (by decide +kernel) rfl, ev_at 67 (by decide +kernel) rfl, cd_X9_remember, ⟨by decide +kernel, by decide +kernel, by decide +kernel⟩⟩
theorem cv_X9_207 : ev_cv RX9 207 m_X9_change 5 := ⟨ev_at 1018 (by decide +kernel) rfl, ev_at 1020 (by decide +kernel) rfl, ev_at 48 (by decide +kernel) rfl, ev_at 67 (by decide +kernel) rfl, cd_X9_change, ⟨by decide +kernel, by decide +kernel, by decide +kernel⟩⟩
theorem cv_X9_211 : ev_cv RX9 211 m_X9_putBack 0 := ⟨ev_at 1052 (by decide +kernel) rfl, ev_at 1054 (by decide +kernel) rfl, ev_at 55 (by decide +kernel) rfl, ev_at 67 (by decide +kernel) rfl, cd_X9_putBack, ⟨by decide +kernel, by decide +kernel, by decide +kernel⟩⟩
theorem f_X9_167 : ev_fl RX9 167 7 20 := ⟨_, _, _, rfl, by decide, ev_at 835 (by decide +kernel) rfl⟩
theorem f_X9_52 : ev_fl RX9 52 7 19 := ⟨_, _, _, rfl, by decide, ev_at 834 (by decide +kernel) rfl⟩
theorem f_X9_164 : ev_fl RX9 164 7 17 := ⟨_, _, _, rfl, by decide, ev_at 832 (by decide +kernel) rfl⟩
theorem f_X9_49 : ev_fl RX9 49 7 18 := ⟨_, _, _, rfl, by decide, ev_at 833 (by decide +kernel) rfl⟩
theorem cv_X9_214 : ev_cv RX9 214 m_X9_perform 1 := ⟨ev_at 1010 (by decide +kernel) rfl, ev_at 1012 (by decide +kernel) rfl, ev_at 46 (by decide +kernel) rfl, ev_at 67 (by decide +kernel) rfl, cd_X9_perform, ⟨by decide +kernel, by decide +kernel, by decide +kernel⟩⟩
theorem f_X9_55 : ev_fl RX9 55 7 21 := ⟨_, _, _, rfl, by decide, ev_at 836 (by decide +kernel) rfl⟩
theorem cv_X9_217 : ev_cv RX9 217 m_X9_level 0 := ⟨ev_at 1056 (by decide +kernel) rfl, ev_at 1057 (by decide +kernel) rfl, ev_at 1058 (by decide +kernel) rfl, ev_at 67 (by decide +kernel) rfl, cd_X9_level, ⟨by decide +kernel, by decide +kernel, by decide +kernel⟩⟩
theorem k_X9_221 : Cond.constantLong RX9 221 (-1) ∈ ev_ws := ev_at 1060 (by decide +kernel) rfl
theorem k_X9_223 : Cond.constantLong RX9 223 (lN 999999999999999999) ∈ ev_ws := ev_at 1061 (by decide +kernel) rfl
theorem k_X9_225 : Cond.constant RX9 225 (nI 1000000000) ∈ ev_ws := ev_at 1083 (by decide +kernel) rfl
theorem f_X9_226 : ev_fl RX9 226 7 22 := ⟨_, _, _, rfl, by decide, ev_at 837 (by decide +kernel) rfl⟩
theorem f_X9_59 : ev_fl RX9 59 7 23 := ⟨_, _, _, rfl, by decide, ev_at 838 (by decide +kernel) rfl⟩
theorem cv_X9_229 : ev_cv RX9 229 m_X9_divide 2 := ⟨ev_at 1092 (by decide +kernel) rfl, ev_at 1094 (by decide +kernel) rfl, ev_at 57 (by decide +kernel) rfl, ev_at 67 (by decide +kernel) rfl, cd_X9_divide, ⟨by decide +kernel, by decide +kernel, by decide +kernel⟩⟩
theorem p_X9_226 : ev_fp RX9 226 7 22 .int := ⟨_, _, _, rfl, by decide, ev_at 837 (by decide +kernel) rfl, rfl, by decide +kernel⟩
theorem cv_X9_232 : ev_cv RX9 232 m_X9_printWhole 1 := ⟨ev_at 1088 (by decide +kernel) rfl, ev_at 1090 (by decide +kernel) rfl, ev_at 56 (by decide +kernel) rfl, ev_at 67 (by decide +kernel) rfl, cd_X9_printWhole, ⟨by decide +kernel, by decide +kernel, by decide +kernel⟩⟩
theorem k_J6_265 : Cond.constant RJ6 265 (nI 1431655765) ∈ ev_ws := ev_at 751 (by decide +kernel) rfl
theorem k_J6_266 : Cond.constant RJ6 266 (nI 858993459) ∈ ev_ws := ev_at 752 (by decide +kernel) rfl
theorem k_J6_267 : Cond.constant RJ6 267 (nI 252645135) ∈ ev_ws := ev_at 753 (by decide +kernel) rfl
theorem cv_L_7 : ev_cv RL 7 m_X8_set 3 := ⟨ev_at 568 (by decide +kernel) rfl, ev_at 569 (by decide +kernel) rfl, ev_at 570 (by decide +kernel) rfl, ev_at 59 (by decide +kernel) rfl, cd_X8_set, ⟨by decide +kernel, by decide +kernel, by decide +kernel⟩⟩
theorem cv_L_17 : ev_cv RL 17 m_X8_get 2 := ⟨ev_at 661 (by decide +kernel) rfl, ev_at 662 (by decide +kernel) rfl, ev_at 663 (by decide +kernel) rfl, ev_at 59 (by decide +kernel) rfl, cd_X8_get, ⟨by decide +kernel, by decide +kernel, by decide +kernel⟩⟩
theorem cv_L_21 : ev_cv RL 21 m_X8_base 2 := ⟨ev_at 668 (by decide +kernel) rfl, ev_at 669 (by decide +kernel) rfl, ev_at 670 (by decide +kernel) rfl, ev_at 59 (by decide +kernel) rfl, cd_X8_base, ⟨by decide +kernel, by decide +kernel, by decide +kernel⟩⟩
theorem cv_L_25 : ev_cv RL 25 m_X8_close 0 := ⟨ev_at 682 (by decide +kernel) rfl, ev_at 683 (by decide +kernel) rfl, ev_at 684 (by decide +kernel) rfl, ev_at 59 (by decide +kernel) rfl, cd_X8_close, ⟨by decide +kernel, by decide +kernel, by decide +kernel⟩⟩
theorem n_L_8 : ev_nw RL 8 6 14 [.null, .null, .null, .null, .null, .null, .null, .null, .null, .null, .null, .int 0, .int 0, .int 0] := ⟨_, _, rfl, ev_at 77 (by decide +kernel) rfl, ev_at 78 (by decide +kernel) rfl, ev_at 59 (by decide +kernel) rfl, tyX8, tyX8_ok, by decide +kernel⟩
theorem ci_L_31 : ev_ci RL 31 m_X8_init 0 := ⟨ev_at 79 (by decide +kernel) rfl, ev_at 80 (by decide +kernel) rfl, ev_at 59 (by decide +kernel) rfl, cd_X8_init, by decide +kernel, rfl, ⟨by decide +kernel, by decide +kernel, by decide +kernel⟩⟩
theorem n_L_32 : ev_nw RL 32 7 25 [.null, .null, .null, .null, .null, .int 0, .int 0, .null, .null, .null, .int 0, .int 0, .null, .null, .null, .null, .null, .int 0, .null, .null, .int 0, .null, .int 0, .null, .int 0] := ⟨_, _, rfl, ev_at 804 (by decide +kernel) rfl, ev_at 805 (by decide +kernel) rfl, ev_at 67 (by decide +kernel) rfl, tyX9, tyX9_ok, by decide +kernel⟩
theorem ci_L_34 : ev_ci RL 34 m_X9_init 0 := ⟨ev_at 806 (by decide +kernel) rfl, ev_at 807 (by decide +kernel) rfl, ev_at 67 (by decide +kernel) rfl, cd_X9_init, by decide +kernel, rfl, ⟨by decide +kernel, by decide +kernel, by decide +kernel⟩⟩
theorem cv_L_40 : ev_cv RL 40 m_X9_set_ 3 := ⟨ev_at 895 (by decide +kernel) rfl, ev_at 896 (by decide +kernel) rfl, ev_at 897 (by decide +kernel) rfl, ev_at 67 (by decide +kernel) rfl, cd_X9_set_, ⟨by decide +kernel, by decide +kernel, by decide +kernel⟩⟩
theorem cv_L_41 : ev_cv RL 41 m_X9_thrown 0 := ⟨ev_at 891 (by decide +kernel) rfl, ev_at 892 (by decide +kernel) rfl, ev_at 893 (by decide +kernel) rfl, ev_at 67 (by decide +kernel) rfl, cd_X9_thrown, ⟨by decide +kernel, by decide +kernel, by decide +kernel⟩⟩
theorem cv_L_47 : ev_cv RL 47 m_X9_get 2 := ⟨ev_at 910 (by decide +kernel) rfl, ev_at 911 (by decide +kernel) rfl, ev_at 912 (by decide +kernel) rfl, ev_at 67 (by decide +kernel) rfl, cd_X9_get, ⟨by decide +kernel, by decide +kernel, by decide +kernel⟩⟩
theorem cv_L_51 : ev_cv RL 51 m_X9_base 2 := ⟨ev_at 914 (by decide +kernel) rfl, ev_at 915 (by decide +kernel) rfl, ev_at 916 (by decide +kernel) rfl, ev_at 67 (by decide +kernel) rfl, cd_X9_base, ⟨by decide +kernel, by decide +kernel, by decide +kernel⟩⟩
theorem cv_L_52 : ev_cv RL 52 m_X8_members 0 := ⟨ev_at 303 (by decide +kernel) rfl, ev_at 304 (by decide +kernel) rfl, ev_at 305 (by decide +kernel) rfl, ev_at 59 (by decide +kernel) rfl, cd_X8_members, ⟨by decide +kernel, by decide +kernel, by decide +kernel⟩⟩
theorem cv_L_55 : ev_cv RL 55 m_X9_members 0 := ⟨ev_at 998 (by decide +kernel) rfl, ev_at 999 (by decide +kernel) rfl, ev_at 1000 (by decide +kernel) rfl, ev_at 67 (by decide +kernel) rfl, cd_X9_members, ⟨by decide +kernel, by decide +kernel, by decide +kernel⟩⟩
theorem cv_L_56 : ev_cv RL 56 m_X8_event 5 := ⟨ev_at 307 (by decide +kernel) rfl, ev_at 308 (by decide +kernel) rfl, ev_at 309 (by decide +kernel) rfl, ev_at 59 (by decide +kernel) rfl, cd_X8_event, ⟨by decide +kernel, by decide +kernel, by decide +kernel⟩⟩
theorem cv_L_60 : ev_cv RL 60 m_X9_event 5 := ⟨ev_at 1002 (by decide +kernel) rfl, ev_at 1003 (by decide +kernel) rfl, ev_at 1004 (by decide +kernel) rfl, ev_at 67 (by decide +kernel) rfl, cd_X9_event, ⟨by decide +kernel, by decide +kernel, by decide +kernel⟩⟩
theorem cv_L_64 : ev_cv RL 64 m_X9_close 0 := ⟨ev_at 1006 (by decide +kernel) rfl, ev_at 1007 (by decide +kernel) rfl, ev_at 1008 (by decide +kernel) rfl, ev_at 67 (by decide +kernel) rfl, cd_X9_close, ⟨by decide +kernel, by decide +kernel, by decide +kernel⟩⟩
theorem cv_L_65 : ev_cv RL 65 m_X8_outcome 1 := ⟨ev_at 322 (by decide +kernel) rfl, ev_at 323 (by decide +kernel) rfl, ev_at 324 (by decide +kernel) rfl, ev_at 59 (by decide +kernel) rfl, cd_X8_outcome, ⟨by decide +kernel, by decide +kernel, by decide +kernel⟩⟩
theorem cv_L_69 : ev_cv RL 69 m_X9_outcome 1 := ⟨ev_at 1062 (by decide +kernel) rfl, ev_at 1063 (by decide +kernel) rfl, ev_at 1064 (by decide +kernel) rfl, ev_at 67 (by decide +kernel) rfl, cd_X9_outcome, ⟨by decide +kernel, by decide +kernel, by decide +kernel⟩⟩
theorem cv_L_70 : ev_cv RL 70 m_X8_noted 1 := ⟨ev_at 330 (by decide +kernel) rfl, ev_at 331 (by decide +kernel) rfl, ev_at 332 (by decide +kernel) rfl, ev_at 59 (by decide +kernel) rfl, cd_X8_noted, ⟨by decide +kernel, by decide +kernel, by decide +kernel⟩⟩
theorem cv_L_73 : ev_cv RL 73 m_X9_noted 1 := ⟨ev_at 1066 (by decide +kernel) rfl, ev_at 1067 (by decide +kernel) rfl, ev_at 1068 (by decide +kernel) rfl, ev_at 67 (by decide +kernel) rfl, cd_X9_noted, ⟨by decide +kernel, by decide +kernel, by decide +kernel⟩⟩
theorem cv_L_74 : ev_cv RL 74 m_X8_days 0 := ⟨ev_at 334 (by decide +kernel) rfl, ev_at 335 (by decide +kernel) rfl, ev_at 336 (by decide +kernel) rfl, ev_at 59 (by decide +kernel) rfl, cd_X8_days, ⟨by decide +kernel, by decide +kernel, by decide +kernel⟩⟩
theorem cv_L_77 : ev_cv RL 77 m_X9_days 0 := ⟨ev_at 1070 (by decide +kernel) rfl, ev_at 1071 (by decide +kernel) rfl, ev_at 1072 (by decide +kernel) rfl, ev_at 67 (by decide +kernel) rfl, cd_X9_days, ⟨by decide +kernel, by decide +kernel, by decide +kernel⟩⟩
theorem cv_L_78 : ev_cv RL 78 m_X8_published 1 := ⟨ev_at 338 (by decide +kernel) rfl, ev_at 339 (by decide +kernel) rfl, ev_at 340 (by decide +kernel) rfl, ev_at 59 (by decide +kernel) rfl, cd_X8_published, ⟨by decide +kernel, by decide +kernel, by decide +kernel⟩⟩
theorem cv_L_82 : ev_cv RL 82 m_X9_published 1 := ⟨ev_at 1074 (by decide +kernel) rfl, ev_at 1075 (by decide +kernel) rfl, ev_at 1076 (by decide +kernel) rfl, ev_at 67 (by decide +kernel) rfl, cd_X9_published, ⟨by decide +kernel, by decide +kernel, by decide +kernel⟩⟩
theorem cv_L_83 : ev_cv RL 83 m_X8_level 0 := ⟨ev_at 343 (by decide +kernel) rfl, ev_at 344 (by decide +kernel) rfl, ev_at 345 (by decide +kernel) rfl, ev_at 59 (by decide +kernel) rfl, cd_X8_level, ⟨by decide +kernel, by decide +kernel, by decide +kernel⟩⟩
theorem cv_L_87 : ev_cv RL 87 m_X9_level 0 := ⟨ev_at 1078 (by decide +kernel) rfl, ev_at 1057 (by decide +kernel) rfl, ev_at 1058 (by decide +kernel) rfl, ev_at 67 (by decide +kernel) rfl, cd_X9_level, ⟨by decide +kernel, by decide +kernel, by decide +kernel⟩⟩
theorem cv_L_88 : ev_cv RL 88 m_X8_weight 1 := ⟨ev_at 490 (by decide +kernel) rfl, ev_at 491 (by decide +kernel) rfl, ev_at 492 (by decide +kernel) rfl, ev_at 59 (by decide +kernel) rfl, cd_X8_weight, ⟨by decide +kernel, by decide +kernel, by decide +kernel⟩⟩
theorem cv_L_91 : ev_cv RL 91 m_X9_weight 1 := ⟨ev_at 1079 (by decide +kernel) rfl, ev_at 1080 (by decide +kernel) rfl, ev_at 1081 (by decide +kernel) rfl, ev_at 67 (by decide +kernel) rfl, cd_X9_weight, ⟨by decide +kernel, by decide +kernel, by decide +kernel⟩⟩
theorem cv_L_92 : ev_cv RL 92 m_X8_print 2 := ⟨ev_at 500 (by decide +kernel) rfl, ev_at 501 (by decide +kernel) rfl, ev_at 502 (by decide +kernel) rfl, ev_at 59 (by decide +kernel) rfl, cd_X8_print, ⟨by decide +kernel, by decide +kernel, by decide +kernel⟩⟩
theorem cv_L_95 : ev_cv RL 95 m_X9_print 2 := ⟨ev_at 1084 (by decide +kernel) rfl, ev_at 1085 (by decide +kernel) rfl, ev_at 1086 (by decide +kernel) rfl, ev_at 67 (by decide +kernel) rfl, cd_X9_print, ⟨by decide +kernel, by decide +kernel, by decide +kernel⟩⟩
theorem cv_L_96 : ev_cv RL 96 m_X8_character 1 := ⟨ev_at 546 (by decide +kernel) rfl, ev_at 547 (by decide +kernel) rfl, ev_at 548 (by decide +kernel) rfl, ev_at 59 (by decide +kernel) rfl, cd_X8_character, ⟨by decide +kernel, by decide +kernel, by decide +kernel⟩⟩
theorem cv_L_99 : ev_cv RL 99 m_X9_character 1 := ⟨ev_at 1096 (by decide +kernel) rfl, ev_at 1097 (by decide +kernel) rfl, ev_at 1098 (by decide +kernel) rfl, ev_at 67 (by decide +kernel) rfl, cd_X9_character, ⟨by decide +kernel, by decide +kernel, by decide +kernel⟩⟩
theorem cv_L_100 : ev_cv RL 100 m_X8_places 1 := ⟨ev_at 550 (by decide +kernel) rfl, ev_at 551 (by decide +kernel) rfl, ev_at 552 (by decide +kernel) rfl, ev_at 59 (by decide +kernel) rfl, cd_X8_places, ⟨by decide +kernel, by decide +kernel, by decide +kernel⟩⟩
theorem cv_L_103 : ev_cv RL 103 m_X9_places 1 := ⟨ev_at 1100 (by decide +kernel) rfl, ev_at 1101 (by decide +kernel) rfl, ev_at 1102 (by decide +kernel) rfl, ev_at 67 (by decide +kernel) rfl, cd_X9_places, ⟨by decide +kernel, by decide +kernel, by decide +kernel⟩⟩
theorem cv_L_104 : ev_cv RL 104 m_X8_check 0 := ⟨ev_at 559 (by decide +kernel) rfl, ev_at 560 (by decide +kernel) rfl, ev_at 561 (by decide +kernel) rfl, ev_at 59 (by decide +kernel) rfl, cd_X8_check, ⟨by decide +kernel, by decide +kernel, by decide +kernel⟩⟩
theorem cv_L_107 : ev_cv RL 107 m_X9_check 0 := ⟨ev_at 1104 (by decide +kernel) rfl, ev_at 1105 (by decide +kernel) rfl, ev_at 1106 (by decide +kernel) rfl, ev_at 67 (by decide +kernel) rfl, cd_X9_check, ⟨by decide +kernel, by decide +kernel, by decide +kernel⟩⟩

theorem k_X2_spans : xCal RX2 yX2_spans cX2_spans 3 (some .boolean) 2 := ⟨u_im_yX2_spans, u_se_yX2_spans, u_in_RX2, u_co_yX2_spans, by decide +kernel⟩
theorem k_X2_copy : xCal RX2 yX2_copy cX2_copy 4 (some .int) 3 := ⟨u_im_yX2_copy, u_se_yX2_copy, u_in_RX2, u_co_yX2_copy, by decide +kernel⟩
theorem k_X2_holds : xCal RX2 yX2_holds cX2_holds 2 (some .boolean) 1 := ⟨u_im_yX2_holds, u_se_yX2_holds, u_in_RX2, u_co_yX2_holds, by decide +kernel⟩
theorem k_X2_signThere : xCal RX2 yX2_signThere cX2_signThere 2 (some .int) 1 := ⟨u_im_yX2_signThere, u_se_yX2_signThere, u_in_RX2, u_co_yX2_signThere, by decide +kernel⟩
theorem k_X0_separateBy : xCal RX0 yX0_separateBy cX0_separateBy 4 none 1 := ⟨u_im_yX0_separateBy, u_se_yX0_separateBy, u_in_RX0, u_co_yX0_separateBy, by decide +kernel⟩
theorem k_X0_begin : xCal RX0 yX0_begin cX0_begin 4 none 3 := ⟨u_im_yX0_begin, u_se_yX0_begin, u_in_RX0, u_co_yX0_begin, by decide +kernel⟩
theorem k_X0_separatesAt : xCal RX0 yX0_separatesAt cX0_separatesAt 3 (some .boolean) 1 := ⟨u_im_yX0_separatesAt, u_se_yX0_separatesAt, u_in_RX0, u_co_yX0_separatesAt, by decide +kernel⟩
theorem k_X0_tokenStart : xCal RX0 yX0_tokenStart cX0_tokenStart 3 (some .int) 1 := ⟨u_im_yX0_tokenStart, u_se_yX0_tokenStart, u_in_RX0, u_co_yX0_tokenStart, by decide +kernel⟩
theorem k_X0_hasToken : xCal RX0 yX0_hasToken cX0_hasToken 1 (some .boolean) 0 := ⟨u_im_yX0_hasToken, u_se_yX0_hasToken, u_in_RX0, u_co_yX0_hasToken, by decide +kernel⟩
theorem k_X0_tokenEnd : xCal RX0 yX0_tokenEnd cX0_tokenEnd 3 (some .int) 1 := ⟨u_im_yX0_tokenEnd, u_se_yX0_tokenEnd, u_in_RX0, u_co_yX0_tokenEnd, by decide +kernel⟩
theorem k_X0_tokensLeft : xCal RX0 yX0_tokensLeft cX0_tokensLeft 3 (some .int) 0 := ⟨u_im_yX0_tokensLeft, u_se_yX0_tokensLeft, u_in_RX0, u_co_yX0_tokensLeft, by decide +kernel⟩
theorem k_X3_become : xCal RX3 yX3_become cX3_become 5 (some .int) 3 := ⟨u_im_yX3_become, u_se_yX3_become, u_in_RX3, u_co_yX3_become, by decide +kernel⟩
theorem k_X0_giveToken : xCal RX0 yX0_giveToken cX0_giveToken 3 (some .int) 1 := ⟨u_im_yX0_giveToken, u_se_yX0_giveToken, u_in_RX0, u_co_yX0_giveToken, by decide +kernel⟩
theorem k_X1_has : xCal RX1 yX1_has cX1_has 2 (some .boolean) 1 := ⟨u_im_yX1_has, u_se_yX1_has, u_in_RX1, u_co_yX1_has, by decide +kernel⟩
theorem k_X1_start : xCal RX1 yX1_start cX1_start 2 (some .int) 1 := ⟨u_im_yX1_start, u_se_yX1_start, u_in_RX1, u_co_yX1_start, by decide +kernel⟩
theorem k_X1_end : xCal RX1 yX1_end cX1_end 2 (some .int) 1 := ⟨u_im_yX1_end, u_se_yX1_end, u_in_RX1, u_co_yX1_end, by decide +kernel⟩
theorem k_X1_mayPart : xCal RX1 yX1_mayPart cX1_mayPart 2 (some .boolean) 1 := ⟨u_im_yX1_mayPart, u_se_yX1_mayPart, u_in_RX1, u_co_yX1_mayPart, by decide +kernel⟩
theorem k_X1_addPart : xCal RX1 yX1_addPart cX1_addPart 3 none 2 := ⟨u_im_yX1_addPart, u_se_yX1_addPart, u_in_RX1, u_co_yX1_addPart, by decide +kernel⟩
theorem k_X1_dropEmptyEnd : xCal RX1 yX1_dropEmptyEnd cX1_dropEmptyEnd 2 none 0 := ⟨u_im_yX1_dropEmptyEnd, u_se_yX1_dropEmptyEnd, u_in_RX1, u_co_yX1_dropEmptyEnd, by decide +kernel⟩
theorem k_X1_fall : xCal RX1 yX1_fall cX1_fall 6 none 3 := ⟨u_im_yX1_fall, u_se_yX1_fall, u_in_RX1, u_co_yX1_fall, by decide +kernel⟩
theorem k_X2_write : xCal RX2 yX2_write cX2_write 3 none 2 := ⟨u_im_yX2_write, u_se_yX2_write, u_in_RX2, u_co_yX2_write, by decide +kernel⟩
theorem k_X2_writeEach : xCal RX2 yX2_writeEach cX2_writeEach 4 none 2 := ⟨u_im_yX2_writeEach, u_se_yX2_writeEach, u_in_RX2, u_co_yX2_writeEach, by decide +kernel⟩
theorem k_X2_clear : xCal RX2 yX2_clear cX2_clear 1 none 0 := ⟨u_im_yX2_clear, u_se_yX2_clear, u_in_RX2, u_co_yX2_clear, by decide +kernel⟩
theorem k_X2_add : xCal RX2 yX2_add cX2_add 2 none 1 := ⟨u_im_yX2_add, u_se_yX2_add, u_in_RX2, u_co_yX2_add, by decide +kernel⟩
theorem k_X2_resize : xCal RX2 yX2_resize cX2_resize 3 none 1 := ⟨u_im_yX2_resize, u_se_yX2_resize, u_in_RX2, u_co_yX2_resize, by decide +kernel⟩
theorem k_X2_change : xCal RX2 yX2_change cX2_change 8 (some .int) 5 := ⟨u_im_yX2_change, u_se_yX2_change, u_in_RX2, u_co_yX2_change, by decide +kernel⟩
theorem k_X2_joinIn : xCal RX2 yX2_joinIn cX2_joinIn 3 (some .int) 2 := ⟨u_im_yX2_joinIn, u_se_yX2_joinIn, u_in_RX2, u_co_yX2_joinIn, by decide +kernel⟩
theorem k_X2_exchange : xCal RX2 yX2_exchange cX2_exchange 4 (some .int) 3 := ⟨u_im_yX2_exchange, u_se_yX2_exchange, u_in_RX2, u_co_yX2_exchange, by decide +kernel⟩
theorem k_X2_turnRound : xCal RX2 yX2_turnRound cX2_turnRound 4 none 0 := ⟨u_im_yX2_turnRound, u_se_yX2_turnRound, u_in_RX2, u_co_yX2_turnRound, by decide +kernel⟩
theorem k_X2_sameRegion : xCal RX2 yX2_sameRegion cX2_sameRegion 6 (some .boolean) 4 := ⟨u_im_yX2_sameRegion, u_se_yX2_sameRegion, u_in_RX2, u_co_yX2_sameRegion, by decide +kernel⟩
theorem k_X2_hasStanding : xCal RX2 yX2_hasStanding cX2_hasStanding 3 (some .boolean) 2 := ⟨u_im_yX2_hasStanding, u_se_yX2_hasStanding, u_in_RX2, u_co_yX2_hasStanding, by decide +kernel⟩
theorem k_X2_findForward : xCal RX2 yX2_findForward cX2_findForward 4 (some .int) 2 := ⟨u_im_yX2_findForward, u_se_yX2_findForward, u_in_RX2, u_co_yX2_findForward, by decide +kernel⟩
theorem k_X2_findBackward : xCal RX2 yX2_findBackward cX2_findBackward 4 (some .int) 2 := ⟨u_im_yX2_findBackward, u_se_yX2_findBackward, u_in_RX2, u_co_yX2_findBackward, by decide +kernel⟩
theorem k_X2_signForward : xCal RX2 yX2_signForward cX2_signForward 4 (some .int) 2 := ⟨u_im_yX2_signForward, u_se_yX2_signForward, u_in_RX2, u_co_yX2_signForward, by decide +kernel⟩
theorem k_X2_signBackward : xCal RX2 yX2_signBackward cX2_signBackward 4 (some .int) 2 := ⟨u_im_yX2_signBackward, u_se_yX2_signBackward, u_in_RX2, u_co_yX2_signBackward, by decide +kernel⟩
theorem k_X2_against : xCal RX2 yX2_against cX2_against 5 (some .int) 1 := ⟨u_im_yX2_against, u_se_yX2_against, u_in_RX2, u_co_yX2_against, by decide +kernel⟩
theorem k_X2_blanksAhead : xCal RX2 yX2_blanksAhead cX2_blanksAhead 2 (some .int) 0 := ⟨u_im_yX2_blanksAhead, u_se_yX2_blanksAhead, u_in_RX2, u_co_yX2_blanksAhead, by decide +kernel⟩
theorem k_X2_endBeforeBlanks : xCal RX2 yX2_endBeforeBlanks cX2_endBeforeBlanks 3 (some .int) 1 := ⟨u_im_yX2_endBeforeBlanks, u_se_yX2_endBeforeBlanks, u_in_RX2, u_co_yX2_endBeforeBlanks, by decide +kernel⟩
theorem k_X4_builderOf : xCal RX4 yX4_builderOf cX4_builderOf 2 (some (.object "RowsOfSigns$Row")) 1 := ⟨u_im_yX4_builderOf, u_se_yX4_builderOf, u_in_RX4, u_co_yX4_builderOf, by decide +kernel⟩
theorem k_X4_isSign : xCalS yX4_isSign cX4_isSign 1 (some .boolean) 1 := ⟨u_st_yX4_isSign, u_in_RX4, u_co_yX4_isSign, by decide +kernel⟩
theorem k_X4_single : xCal RX4 yX4_single cX4_single 2 (some (.object "RowsOfSigns$Row")) 1 := ⟨u_im_yX4_single, u_se_yX4_single, u_in_RX4, u_co_yX4_single, by decide +kernel⟩
theorem k_X4_sign : xCal RX4 yX4_sign cX4_sign 4 (some .int) 2 := ⟨u_im_yX4_sign, u_se_yX4_sign, u_in_RX4, u_co_yX4_sign, by decide +kernel⟩
theorem k_X4_lowBytes : xCal RX4 yX4_lowBytes cX4_lowBytes 5 (some (.object "RowsOfSigns$Row")) 2 := ⟨u_im_yX4_lowBytes, u_se_yX4_lowBytes, u_in_RX4, u_co_yX4_lowBytes, by decide +kernel⟩
theorem k_X4_signs : xCal RX4 yX4_signs cX4_signs 6 (some .int) 3 := ⟨u_im_yX4_signs, u_se_yX4_signs, u_in_RX4, u_co_yX4_signs, by decide +kernel⟩
theorem k_X4_textOf : xCal RX4 yX4_textOf cX4_textOf 2 (some (.object "RowsOfSigns$Text")) 1 := ⟨u_im_yX4_textOf, u_se_yX4_textOf, u_in_RX4, u_co_yX4_textOf, by decide +kernel⟩
theorem k_X4_textOrFour : xCal RX4 yX4_textOrFour cX4_textOrFour 3 (some (.object "RowsOfSigns$Row")) 1 := ⟨u_im_yX4_textOrFour, u_se_yX4_textOrFour, u_in_RX4, u_co_yX4_textOrFour, by decide +kernel⟩
theorem k_X4_text : xCal RX4 yX4_text cX4_text 5 (some .int) 2 := ⟨u_im_yX4_text, u_se_yX4_text, u_in_RX4, u_co_yX4_text, by decide +kernel⟩
theorem k_X4_part : xCal RX4 yX4_part cX4_part 7 (some .int) 4 := ⟨u_im_yX4_part, u_se_yX4_part, u_in_RX4, u_co_yX4_part, by decide +kernel⟩
theorem k_X4_figures : xCal RX4 yX4_figures cX4_figures 6 (some (.object "RowsOfSigns$Row")) 1 := ⟨u_im_yX4_figures, u_se_yX4_figures, u_in_RX4, u_co_yX4_figures, by decide +kernel⟩
theorem k_X4_number : xCal RX4 yX4_number cX4_number 5 (some .int) 2 := ⟨u_im_yX4_number, u_se_yX4_number, u_in_RX4, u_co_yX4_number, by decide +kernel⟩
theorem k_X4_insert : xCal RX4 yX4_insert cX4_insert 6 (some .int) 3 := ⟨u_im_yX4_insert, u_se_yX4_insert, u_in_RX4, u_co_yX4_insert, by decide +kernel⟩
theorem k_X4_insertPart : xCal RX4 yX4_insertPart cX4_insertPart 8 (some .int) 5 := ⟨u_im_yX4_insertPart, u_se_yX4_insertPart, u_in_RX4, u_co_yX4_insertPart, by decide +kernel⟩
theorem k_X4_insertSign : xCal RX4 yX4_insertSign cX4_insertSign 5 (some .int) 3 := ⟨u_im_yX4_insertSign, u_se_yX4_insertSign, u_in_RX4, u_co_yX4_insertSign, by decide +kernel⟩
theorem k_X4_nothing : xCal RX4 yX4_nothing cX4_nothing 1 (some (.object "RowsOfSigns$Row")) 0 := ⟨u_im_yX4_nothing, u_se_yX4_nothing, u_in_RX4, u_co_yX4_nothing, by decide +kernel⟩
theorem k_X4_delete : xCal RX4 yX4_delete cX4_delete 5 (some .int) 3 := ⟨u_im_yX4_delete, u_se_yX4_delete, u_in_RX4, u_co_yX4_delete, by decide +kernel⟩
theorem k_X4_deleteAt : xCal RX4 yX4_deleteAt cX4_deleteAt 4 (some .int) 2 := ⟨u_im_yX4_deleteAt, u_se_yX4_deleteAt, u_in_RX4, u_co_yX4_deleteAt, by decide +kernel⟩
theorem k_X4_replace : xCal RX4 yX4_replace cX4_replace 7 (some .int) 4 := ⟨u_im_yX4_replace, u_se_yX4_replace, u_in_RX4, u_co_yX4_replace, by decide +kernel⟩
theorem k_X4_reverse : xCal RX4 yX4_reverse cX4_reverse 3 (some .int) 1 := ⟨u_im_yX4_reverse, u_se_yX4_reverse, u_in_RX4, u_co_yX4_reverse, by decide +kernel⟩
theorem k_X4_put : xCal RX4 yX4_put cX4_put 6 (some .int) 3 := ⟨u_im_yX4_put, u_se_yX4_put, u_in_RX4, u_co_yX4_put, by decide +kernel⟩
theorem k_X4_length : xCal RX4 yX4_length cX4_length 5 (some .int) 2 := ⟨u_im_yX4_length, u_se_yX4_length, u_in_RX4, u_co_yX4_length, by decide +kernel⟩
theorem k_X4_at : xCal RX4 yX4_at cX4_at 4 (some .int) 2 := ⟨u_im_yX4_at, u_se_yX4_at, u_in_RX4, u_co_yX4_at, by decide +kernel⟩
theorem k_X4_size : xCal RX4 yX4_size cX4_size 3 (some .int) 1 := ⟨u_im_yX4_size, u_se_yX4_size, u_in_RX4, u_co_yX4_size, by decide +kernel⟩
theorem k_X4_first : xCal RX4 yX4_first cX4_first 6 (some .int) 3 := ⟨u_im_yX4_first, u_se_yX4_first, u_in_RX4, u_co_yX4_first, by decide +kernel⟩
theorem k_X4_last : xCal RX4 yX4_last cX4_last 6 (some .int) 3 := ⟨u_im_yX4_last, u_se_yX4_last, u_in_RX4, u_co_yX4_last, by decide +kernel⟩
theorem k_X4_take : xCal RX4 yX4_take cX4_take 7 (some .int) 4 := ⟨u_im_yX4_take, u_se_yX4_take, u_in_RX4, u_co_yX4_take, by decide +kernel⟩
theorem k_J6_compare_7cf53 : xCalS yJ6_compare_7cf53 cJ6_compare_7cf53 2 (some .int) 2 := ⟨u_st_yJ6_compare_7cf53, u_in_RJ6, u_co_yJ6_compare_7cf53, by decide +kernel⟩
theorem k_X4_ahead : xCal RX4 yX4_ahead cX4_ahead 5 (some .int) 2 := ⟨u_im_yX4_ahead, u_se_yX4_ahead, u_in_RX4, u_co_yX4_ahead, by decide +kernel⟩
theorem k_X4_forget : xCal RX4 yX4_forget cX4_forget 3 (some .int) 1 := ⟨u_im_yX4_forget, u_se_yX4_forget, u_in_RX4, u_co_yX4_forget, by decide +kernel⟩
theorem k_X4_textSize : xCal RX4 yX4_textSize cX4_textSize 3 (some .int) 1 := ⟨u_im_yX4_textSize, u_se_yX4_textSize, u_in_RX4, u_co_yX4_textSize, by decide +kernel⟩
theorem k_X4_signAt : xCal RX4 yX4_signAt cX4_signAt 4 (some .int) 2 := ⟨u_im_yX4_signAt, u_se_yX4_signAt, u_in_RX4, u_co_yX4_signAt, by decide +kernel⟩
theorem k_X4_firstSign : xCal RX4 yX4_firstSign cX4_firstSign 5 (some .int) 3 := ⟨u_im_yX4_firstSign, u_se_yX4_firstSign, u_in_RX4, u_co_yX4_firstSign, by decide +kernel⟩
theorem k_X4_lastSign : xCal RX4 yX4_lastSign cX4_lastSign 5 (some .int) 3 := ⟨u_im_yX4_lastSign, u_se_yX4_lastSign, u_in_RX4, u_co_yX4_lastSign, by decide +kernel⟩
theorem k_X4_firstText : xCal RX4 yX4_firstText cX4_firstText 6 (some .int) 3 := ⟨u_im_yX4_firstText, u_se_yX4_firstText, u_in_RX4, u_co_yX4_firstText, by decide +kernel⟩
theorem k_X4_lastText : xCal RX4 yX4_lastText cX4_lastText 6 (some .int) 3 := ⟨u_im_yX4_lastText, u_se_yX4_lastText, u_in_RX4, u_co_yX4_lastText, by decide +kernel⟩
theorem k_X4_region : xCal RX4 yX4_region cX4_region 8 (some .int) 5 := ⟨u_im_yX4_region, u_se_yX4_region, u_in_RX4, u_co_yX4_region, by decide +kernel⟩
theorem k_X4_order : xCal RX4 yX4_order cX4_order 5 (some .int) 2 := ⟨u_im_yX4_order, u_se_yX4_order, u_in_RX4, u_co_yX4_order, by decide +kernel⟩
theorem k_X4_begins : xCal RX4 yX4_begins cX4_begins 6 (some .int) 3 := ⟨u_im_yX4_begins, u_se_yX4_begins, u_in_RX4, u_co_yX4_begins, by decide +kernel⟩
theorem k_X4_swap : xCal RX4 yX4_swap cX4_swap 7 (some .int) 4 := ⟨u_im_yX4_swap, u_se_yX4_swap, u_in_RX4, u_co_yX4_swap, by decide +kernel⟩
theorem k_X4_sub : xCal RX4 yX4_sub cX4_sub 7 (some .int) 4 := ⟨u_im_yX4_sub, u_se_yX4_sub, u_in_RX4, u_co_yX4_sub, by decide +kernel⟩
theorem k_X4_trim : xCal RX4 yX4_trim cX4_trim 6 (some .int) 2 := ⟨u_im_yX4_trim, u_se_yX4_trim, u_in_RX4, u_co_yX4_trim, by decide +kernel⟩
theorem k_X4_repeat : xCal RX4 yX4_repeat cX4_repeat 9 (some .int) 3 := ⟨u_im_yX4_repeat, u_se_yX4_repeat, u_in_RX4, u_co_yX4_repeat, by decide +kernel⟩
theorem k_X4_join : xCal RX4 yX4_join cX4_join 9 (some .int) 3 := ⟨u_im_yX4_join, u_se_yX4_join, u_in_RX4, u_co_yX4_join, by decide +kernel⟩
theorem k_X4_isSeparator : xCalS yX4_isSeparator cX4_isSeparator 2 (some .boolean) 1 := ⟨u_st_yX4_isSeparator, u_in_RX4, u_co_yX4_isSeparator, by decide +kernel⟩
theorem k_X4_split : xCal RX4 yX4_split cX4_split 5 (some .int) 3 := ⟨u_im_yX4_split, u_se_yX4_split, u_in_RX4, u_co_yX4_split, by decide +kernel⟩
theorem k_X4_parts : xCal RX4 yX4_parts cX4_parts 1 (some .int) 0 := ⟨u_im_yX4_parts, u_se_yX4_parts, u_in_RX4, u_co_yX4_parts, by decide +kernel⟩
theorem k_X4_partTo : xCal RX4 yX4_partTo cX4_partTo 4 (some .int) 2 := ⟨u_im_yX4_partTo, u_se_yX4_partTo, u_in_RX4, u_co_yX4_partTo, by decide +kernel⟩
theorem k_X4_joined : xCal RX4 yX4_joined cX4_joined 6 (some .int) 2 := ⟨u_im_yX4_joined, u_se_yX4_joined, u_in_RX4, u_co_yX4_joined, by decide +kernel⟩
theorem k_X4_cutterOf : xCal RX4 yX4_cutterOf cX4_cutterOf 2 (some (.object "RowsOfSigns$Cutter")) 1 := ⟨u_im_yX4_cutterOf, u_se_yX4_cutterOf, u_in_RX4, u_co_yX4_cutterOf, by decide +kernel⟩
theorem k_X4_cutter : xCal RX4 yX4_cutter cX4_cutter 8 (some .int) 4 := ⟨u_im_yX4_cutter, u_se_yX4_cutter, u_in_RX4, u_co_yX4_cutter, by decide +kernel⟩
theorem k_X4_more : xCal RX4 yX4_more cX4_more 3 (some .int) 1 := ⟨u_im_yX4_more, u_se_yX4_more, u_in_RX4, u_co_yX4_more, by decide +kernel⟩
theorem k_X4_left : xCal RX4 yX4_left cX4_left 3 (some .int) 1 := ⟨u_im_yX4_left, u_se_yX4_left, u_in_RX4, u_co_yX4_left, by decide +kernel⟩
theorem k_X4_next : xCal RX4 yX4_next cX4_next 5 (some .int) 2 := ⟨u_im_yX4_next, u_se_yX4_next, u_in_RX4, u_co_yX4_next, by decide +kernel⟩
theorem k_X4_nextBy : xCal RX4 yX4_nextBy cX4_nextBy 7 (some .int) 3 := ⟨u_im_yX4_nextBy, u_se_yX4_nextBy, u_in_RX4, u_co_yX4_nextBy, by decide +kernel⟩
theorem k_X4_mixed : xCalS yX4_mixed cX4_mixed 3 (some .long) 2 := ⟨u_st_yX4_mixed, u_in_RX4, u_co_yX4_mixed, by decide +kernel⟩
theorem k_X4_mixedRow : xCalS yX4_mixedRow cX4_mixedRow 8 (some .long) 4 := ⟨u_st_yX4_mixedRow, u_in_RX4, u_co_yX4_mixedRow, by decide +kernel⟩
theorem k_X4_digest : xCal RX4 yX4_digest cX4_digest 5 (some .long) 0 := ⟨u_im_yX4_digest, u_se_yX4_digest, u_in_RX4, u_co_yX4_digest, by decide +kernel⟩
theorem k_X5_in : xCalS yX5_in cX5_in 6 (some .boolean) 3 := ⟨u_st_yX5_in, u_in_RX5, u_co_yX5_in, by decide +kernel⟩
theorem k_X5_isBuilder : xCalS yX5_isBuilder cX5_isBuilder 1 (some .boolean) 1 := ⟨u_st_yX5_isBuilder, u_in_RX5, u_co_yX5_isBuilder, by decide +kernel⟩
theorem k_X5_isText : xCalS yX5_isText cX5_isText 1 (some .boolean) 1 := ⟨u_st_yX5_isText, u_in_RX5, u_co_yX5_isText, by decide +kernel⟩
theorem k_X5_isSign : xCalS yX5_isSign cX5_isSign 1 (some .boolean) 1 := ⟨u_st_yX5_isSign, u_in_RX5, u_co_yX5_isSign, by decide +kernel⟩
theorem k_X5_layText : xCal RX5 yX5_layText cX5_layText 3 none 1 := ⟨u_im_yX5_layText, u_se_yX5_layText, u_in_RX5, u_co_yX5_layText, by decide +kernel⟩
theorem k_X5_clip : xCal RX5 yX5_clip cX5_clip 4 none 2 := ⟨u_im_yX5_clip, u_se_yX5_clip, u_in_RX5, u_co_yX5_clip, by decide +kernel⟩
theorem k_X5_laySign : xCal RX5 yX5_laySign cX5_laySign 2 none 1 := ⟨u_im_yX5_laySign, u_se_yX5_laySign, u_in_RX5, u_co_yX5_laySign, by decide +kernel⟩
theorem k_X5_become : xCal RX5 yX5_become cX5_become 3 (some .int) 1 := ⟨u_im_yX5_become, u_se_yX5_become, u_in_RX5, u_co_yX5_become, by decide +kernel⟩
theorem k_X5_edit : xCal RX5 yX5_edit cX5_edit 8 (some .int) 3 := ⟨u_im_yX5_edit, u_se_yX5_edit, u_in_RX5, u_co_yX5_edit, by decide +kernel⟩
theorem k_X5_append : xCal RX5 yX5_append cX5_append 2 (some .int) 1 := ⟨u_im_yX5_append, u_se_yX5_append, u_in_RX5, u_co_yX5_append, by decide +kernel⟩
theorem k_X5_sign : xCal RX5 yX5_sign cX5_sign 3 (some .int) 2 := ⟨u_im_yX5_sign, u_se_yX5_sign, u_in_RX5, u_co_yX5_sign, by decide +kernel⟩
theorem k_X5_signs : xCal RX5 yX5_signs cX5_signs 6 (some .int) 3 := ⟨u_im_yX5_signs, u_se_yX5_signs, u_in_RX5, u_co_yX5_signs, by decide +kernel⟩
theorem k_X5_text : xCal RX5 yX5_text cX5_text 3 (some .int) 2 := ⟨u_im_yX5_text, u_se_yX5_text, u_in_RX5, u_co_yX5_text, by decide +kernel⟩
theorem k_X5_part : xCal RX5 yX5_part cX5_part 5 (some .int) 4 := ⟨u_im_yX5_part, u_se_yX5_part, u_in_RX5, u_co_yX5_part, by decide +kernel⟩
theorem k_X5_number : xCal RX5 yX5_number cX5_number 8 (some .int) 2 := ⟨u_im_yX5_number, u_se_yX5_number, u_in_RX5, u_co_yX5_number, by decide +kernel⟩
theorem k_X5_insert : xCal RX5 yX5_insert cX5_insert 4 (some .int) 3 := ⟨u_im_yX5_insert, u_se_yX5_insert, u_in_RX5, u_co_yX5_insert, by decide +kernel⟩
theorem k_X5_insertPart : xCal RX5 yX5_insertPart cX5_insertPart 6 (some .int) 5 := ⟨u_im_yX5_insertPart, u_se_yX5_insertPart, u_in_RX5, u_co_yX5_insertPart, by decide +kernel⟩
theorem k_X5_insertSign : xCal RX5 yX5_insertSign cX5_insertSign 4 (some .int) 3 := ⟨u_im_yX5_insertSign, u_se_yX5_insertSign, u_in_RX5, u_co_yX5_insertSign, by decide +kernel⟩
theorem k_X5_canDrop : xCal RX5 yX5_canDrop cX5_canDrop 4 (some .boolean) 3 := ⟨u_im_yX5_canDrop, u_se_yX5_canDrop, u_in_RX5, u_co_yX5_canDrop, by decide +kernel⟩
theorem k_X5_endOf : xCal RX5 yX5_endOf cX5_endOf 3 (some .int) 2 := ⟨u_im_yX5_endOf, u_se_yX5_endOf, u_in_RX5, u_co_yX5_endOf, by decide +kernel⟩
theorem k_X5_delete : xCal RX5 yX5_delete cX5_delete 4 (some .int) 3 := ⟨u_im_yX5_delete, u_se_yX5_delete, u_in_RX5, u_co_yX5_delete, by decide +kernel⟩
theorem k_X5_deleteAt : xCal RX5 yX5_deleteAt cX5_deleteAt 3 (some .int) 2 := ⟨u_im_yX5_deleteAt, u_se_yX5_deleteAt, u_in_RX5, u_co_yX5_deleteAt, by decide +kernel⟩
theorem k_X5_replace : xCal RX5 yX5_replace cX5_replace 5 (some .int) 4 := ⟨u_im_yX5_replace, u_se_yX5_replace, u_in_RX5, u_co_yX5_replace, by decide +kernel⟩
theorem k_X5_reverse : xCal RX5 yX5_reverse cX5_reverse 4 (some .int) 1 := ⟨u_im_yX5_reverse, u_se_yX5_reverse, u_in_RX5, u_co_yX5_reverse, by decide +kernel⟩
theorem k_X5_put : xCal RX5 yX5_put cX5_put 5 (some .int) 3 := ⟨u_im_yX5_put, u_se_yX5_put, u_in_RX5, u_co_yX5_put, by decide +kernel⟩
theorem k_X5_length : xCal RX5 yX5_length cX5_length 5 (some .int) 2 := ⟨u_im_yX5_length, u_se_yX5_length, u_in_RX5, u_co_yX5_length, by decide +kernel⟩
theorem k_X5_at : xCal RX5 yX5_at cX5_at 3 (some .int) 2 := ⟨u_im_yX5_at, u_se_yX5_at, u_in_RX5, u_co_yX5_at, by decide +kernel⟩
theorem k_X5_size : xCal RX5 yX5_size cX5_size 2 (some .int) 1 := ⟨u_im_yX5_size, u_se_yX5_size, u_in_RX5, u_co_yX5_size, by decide +kernel⟩
theorem k_X5_stands : xCal RX5 yX5_stands cX5_stands 7 (some .boolean) 4 := ⟨u_im_yX5_stands, u_se_yX5_stands, u_in_RX5, u_co_yX5_stands, by decide +kernel⟩
theorem k_X5_firstOf : xCal RX5 yX5_firstOf cX5_firstOf 7 (some .int) 4 := ⟨u_im_yX5_firstOf, u_se_yX5_firstOf, u_in_RX5, u_co_yX5_firstOf, by decide +kernel⟩
theorem k_X5_lastOf : xCal RX5 yX5_lastOf cX5_lastOf 6 (some .int) 4 := ⟨u_im_yX5_lastOf, u_se_yX5_lastOf, u_in_RX5, u_co_yX5_lastOf, by decide +kernel⟩
theorem k_X5_orderOf : xCalS yX5_orderOf cX5_orderOf 6 (some .int) 5 := ⟨u_st_yX5_orderOf, u_in_RX5, u_co_yX5_orderOf, by decide +kernel⟩
theorem k_X5_first : xCal RX5 yX5_first cX5_first 4 (some .int) 3 := ⟨u_im_yX5_first, u_se_yX5_first, u_in_RX5, u_co_yX5_first, by decide +kernel⟩
theorem k_X5_last : xCal RX5 yX5_last cX5_last 4 (some .int) 3 := ⟨u_im_yX5_last, u_se_yX5_last, u_in_RX5, u_co_yX5_last, by decide +kernel⟩
theorem k_X5_take : xCal RX5 yX5_take cX5_take 6 (some .int) 4 := ⟨u_im_yX5_take, u_se_yX5_take, u_in_RX5, u_co_yX5_take, by decide +kernel⟩
theorem k_X5_ahead : xCal RX5 yX5_ahead cX5_ahead 4 (some .int) 2 := ⟨u_im_yX5_ahead, u_se_yX5_ahead, u_in_RX5, u_co_yX5_ahead, by decide +kernel⟩
theorem k_X5_forget : xCal RX5 yX5_forget cX5_forget 3 (some .int) 1 := ⟨u_im_yX5_forget, u_se_yX5_forget, u_in_RX5, u_co_yX5_forget, by decide +kernel⟩
theorem k_X5_textSize : xCal RX5 yX5_textSize cX5_textSize 2 (some .int) 1 := ⟨u_im_yX5_textSize, u_se_yX5_textSize, u_in_RX5, u_co_yX5_textSize, by decide +kernel⟩
theorem k_X5_signAt : xCal RX5 yX5_signAt cX5_signAt 3 (some .int) 2 := ⟨u_im_yX5_signAt, u_se_yX5_signAt, u_in_RX5, u_co_yX5_signAt, by decide +kernel⟩
theorem k_X5_bars : xCal RX5 yX5_bars cX5_bars 3 (some .int) 2 := ⟨u_im_yX5_bars, u_se_yX5_bars, u_in_RX5, u_co_yX5_bars, by decide +kernel⟩
theorem k_X5_firstSign : xCal RX5 yX5_firstSign cX5_firstSign 5 (some .int) 3 := ⟨u_im_yX5_firstSign, u_se_yX5_firstSign, u_in_RX5, u_co_yX5_firstSign, by decide +kernel⟩
theorem k_X5_lastSign : xCal RX5 yX5_lastSign cX5_lastSign 5 (some .int) 3 := ⟨u_im_yX5_lastSign, u_se_yX5_lastSign, u_in_RX5, u_co_yX5_lastSign, by decide +kernel⟩
theorem k_X5_barsTwo : xCal RX5 yX5_barsTwo cX5_barsTwo 3 (some .int) 2 := ⟨u_im_yX5_barsTwo, u_se_yX5_barsTwo, u_in_RX5, u_co_yX5_barsTwo, by decide +kernel⟩
theorem k_X5_firstText : xCal RX5 yX5_firstText cX5_firstText 5 (some .int) 3 := ⟨u_im_yX5_firstText, u_se_yX5_firstText, u_in_RX5, u_co_yX5_firstText, by decide +kernel⟩
theorem k_X5_lastText : xCal RX5 yX5_lastText cX5_lastText 5 (some .int) 3 := ⟨u_im_yX5_lastText, u_se_yX5_lastText, u_in_RX5, u_co_yX5_lastText, by decide +kernel⟩
theorem k_X5_region : xCal RX5 yX5_region cX5_region 9 (some .int) 5 := ⟨u_im_yX5_region, u_se_yX5_region, u_in_RX5, u_co_yX5_region, by decide +kernel⟩
theorem k_X5_order : xCal RX5 yX5_order cX5_order 4 (some .int) 2 := ⟨u_im_yX5_order, u_se_yX5_order, u_in_RX5, u_co_yX5_order, by decide +kernel⟩
theorem k_X5_begins : xCal RX5 yX5_begins cX5_begins 5 (some .int) 3 := ⟨u_im_yX5_begins, u_se_yX5_begins, u_in_RX5, u_co_yX5_begins, by decide +kernel⟩
theorem k_X5_barsOne : xCal RX5 yX5_barsOne cX5_barsOne 3 (some .int) 2 := ⟨u_im_yX5_barsOne, u_se_yX5_barsOne, u_in_RX5, u_co_yX5_barsOne, by decide +kernel⟩
theorem k_X5_swap : xCal RX5 yX5_swap cX5_swap 6 (some .int) 4 := ⟨u_im_yX5_swap, u_se_yX5_swap, u_in_RX5, u_co_yX5_swap, by decide +kernel⟩
theorem k_X5_sub : xCal RX5 yX5_sub cX5_sub 6 (some .int) 4 := ⟨u_im_yX5_sub, u_se_yX5_sub, u_in_RX5, u_co_yX5_sub, by decide +kernel⟩
theorem k_X5_trim : xCal RX5 yX5_trim cX5_trim 6 (some .int) 2 := ⟨u_im_yX5_trim, u_se_yX5_trim, u_in_RX5, u_co_yX5_trim, by decide +kernel⟩
theorem k_X5_repeat : xCal RX5 yX5_repeat cX5_repeat 7 (some .int) 3 := ⟨u_im_yX5_repeat, u_se_yX5_repeat, u_in_RX5, u_co_yX5_repeat, by decide +kernel⟩
theorem k_X5_join : xCal RX5 yX5_join cX5_join 5 (some .int) 3 := ⟨u_im_yX5_join, u_se_yX5_join, u_in_RX5, u_co_yX5_join, by decide +kernel⟩
theorem k_X5_isSeparator : xCalS yX5_isSeparator cX5_isSeparator 2 (some .boolean) 1 := ⟨u_st_yX5_isSeparator, u_in_RX5, u_co_yX5_isSeparator, by decide +kernel⟩
theorem k_X5_layPart : xCal RX5 yX5_layPart cX5_layPart 3 none 2 := ⟨u_im_yX5_layPart, u_se_yX5_layPart, u_in_RX5, u_co_yX5_layPart, by decide +kernel⟩
theorem k_X5_split : xCal RX5 yX5_split cX5_split 6 (some .int) 3 := ⟨u_im_yX5_split, u_se_yX5_split, u_in_RX5, u_co_yX5_split, by decide +kernel⟩
theorem k_X5_parts : xCal RX5 yX5_parts cX5_parts 1 (some .int) 0 := ⟨u_im_yX5_parts, u_se_yX5_parts, u_in_RX5, u_co_yX5_parts, by decide +kernel⟩
theorem k_X5_addPart : xCal RX5 yX5_addPart cX5_addPart 3 none 1 := ⟨u_im_yX5_addPart, u_se_yX5_addPart, u_in_RX5, u_co_yX5_addPart, by decide +kernel⟩
theorem k_X5_partTo : xCal RX5 yX5_partTo cX5_partTo 3 (some .int) 2 := ⟨u_im_yX5_partTo, u_se_yX5_partTo, u_in_RX5, u_co_yX5_partTo, by decide +kernel⟩
theorem k_X5_joined : xCal RX5 yX5_joined cX5_joined 4 (some .int) 2 := ⟨u_im_yX5_joined, u_se_yX5_joined, u_in_RX5, u_co_yX5_joined, by decide +kernel⟩
theorem k_X5_isCutter : xCalS yX5_isCutter cX5_isCutter 1 (some .boolean) 1 := ⟨u_st_yX5_isCutter, u_in_RX5, u_co_yX5_isCutter, by decide +kernel⟩
theorem k_X5_isSeparatorAt : xCal RX5 yX5_isSeparatorAt cX5_isSeparatorAt 3 (some .boolean) 2 := ⟨u_im_yX5_isSeparatorAt, u_se_yX5_isSeparatorAt, u_in_RX5, u_co_yX5_isSeparatorAt, by decide +kernel⟩
theorem k_X5_laySeparators : xCal RX5 yX5_laySeparators cX5_laySeparators 4 none 2 := ⟨u_im_yX5_laySeparators, u_se_yX5_laySeparators, u_in_RX5, u_co_yX5_laySeparators, by decide +kernel⟩
theorem k_X5_beginOf : xCal RX5 yX5_beginOf cX5_beginOf 4 (some .int) 2 := ⟨u_im_yX5_beginOf, u_se_yX5_beginOf, u_in_RX5, u_co_yX5_beginOf, by decide +kernel⟩
theorem k_X5_behindOf : xCal RX5 yX5_behindOf cX5_behindOf 4 (some .int) 2 := ⟨u_im_yX5_behindOf, u_se_yX5_behindOf, u_in_RX5, u_co_yX5_behindOf, by decide +kernel⟩
theorem k_X5_leftOf : xCal RX5 yX5_leftOf cX5_leftOf 4 (some .int) 1 := ⟨u_im_yX5_leftOf, u_se_yX5_leftOf, u_in_RX5, u_co_yX5_leftOf, by decide +kernel⟩
theorem k_X5_cutter : xCal RX5 yX5_cutter cX5_cutter 6 (some .int) 4 := ⟨u_im_yX5_cutter, u_se_yX5_cutter, u_in_RX5, u_co_yX5_cutter, by decide +kernel⟩
theorem k_X5_more : xCal RX5 yX5_more cX5_more 2 (some .int) 1 := ⟨u_im_yX5_more, u_se_yX5_more, u_in_RX5, u_co_yX5_more, by decide +kernel⟩
theorem k_X5_left : xCal RX5 yX5_left cX5_left 2 (some .int) 1 := ⟨u_im_yX5_left, u_se_yX5_left, u_in_RX5, u_co_yX5_left, by decide +kernel⟩
theorem k_X5_takes : xCal RX5 yX5_takes cX5_takes 6 (some .int) 2 := ⟨u_im_yX5_takes, u_se_yX5_takes, u_in_RX5, u_co_yX5_takes, by decide +kernel⟩
theorem k_X5_next : xCal RX5 yX5_next cX5_next 3 (some .int) 2 := ⟨u_im_yX5_next, u_se_yX5_next, u_in_RX5, u_co_yX5_next, by decide +kernel⟩
theorem k_X5_nextBy : xCal RX5 yX5_nextBy cX5_nextBy 4 (some .int) 3 := ⟨u_im_yX5_nextBy, u_se_yX5_nextBy, u_in_RX5, u_co_yX5_nextBy, by decide +kernel⟩
theorem k_X5_mix : xCal RX5 yX5_mix cX5_mix 3 none 1 := ⟨u_im_yX5_mix, u_se_yX5_mix, u_in_RX5, u_co_yX5_mix, by decide +kernel⟩
theorem k_X5_digest : xCal RX5 yX5_digest cX5_digest 3 (some .long) 0 := ⟨u_im_yX5_digest, u_se_yX5_digest, u_in_RX5, u_co_yX5_digest, by decide +kernel⟩
theorem k_J9_abs_0f7a4 : xCalS yJ9_abs_0f7a4 cJ9_abs_0f7a4 1 (some .int) 1 := ⟨u_st_yJ9_abs_0f7a4, u_in_RJ9, u_co_yJ9_abs_0f7a4, by decide +kernel⟩
theorem k_J9_max_7cf53 : xCalS yJ9_max_7cf53 cJ9_max_7cf53 2 (some .int) 2 := ⟨u_st_yJ9_max_7cf53, u_in_RJ9, u_co_yJ9_max_7cf53, by decide +kernel⟩
theorem k_J9_min_7cf53 : xCalS yJ9_min_7cf53 cJ9_min_7cf53 2 (some .int) 2 := ⟨u_st_yJ9_min_7cf53, u_in_RJ9, u_co_yJ9_min_7cf53, by decide +kernel⟩
section XR3
variable {p : Program} {l : Launch} {e : Env} {R : Room} {s : State} {m : MethodId} {args : Array Value} {below : List Frame} {meth : Method} {c : Code} {H : Heap} {locs : List Loc} {cells slots : Nat} {Q : State → Prop}
variable {cc : ByteArray} {pc : Nat} {ls : Array Slot} {rest : List Value} {D : va_G} {cA : Nat → ClassId} {n : Nat} {ad : Nat → Nat} {en : Nat → va_E}
theorem x_i2l (hx : p.tables.exec = Jvm.exec) (hb : c.code = cc) {a : Int} (hdg : decode cc pc = .ok (.i2l, 1)) (ha : -2147483648 ≤ a ∧ a ≤ 2147483647) (kk : W p l e R s m args below meth c H locs cells slots Q (F0 m (pc + 1) ls (.long (xL a) :: rest))) : W p l e R s m args below meth c H locs cells slots Q (F0 m pc ls (.int (xI a) :: rest)) := lv_i2l (v := xL a) hx hb hdg (xI_l ha) kk
theorem x_ladd (hx : p.tables.exec = Jvm.exec) (hb : c.code = cc) {a b : Int} (hdg : decode cc pc = .ok (.ladd, 1)) (kk : W p l e R s m args below meth c H locs cells slots Q (F0 m (pc + 1) ls (.long (xL (a + b)) :: rest))) : W p l e R s m args below meth c H locs cells slots Q (F0 m pc ls (.long (xL b) :: .long (xL a) :: rest)) := lv_ladd hx hb hdg (by rw [xL_add]; exact kk)
theorem x_lmul (hx : p.tables.exec = Jvm.exec) (hb : c.code = cc) {a b : Int} (hdg : decode cc pc = .ok (.lmul, 1)) (kk : W p l e R s m args below meth c H locs cells slots Q (F0 m (pc + 1) ls (.long (xL (a * b)) :: rest))) : W p l e R s m args below meth c H locs cells slots Q (F0 m pc ls (.long (xL b) :: .long (xL a) :: rest)) := lv_lmul hx hb hdg (by rw [xL_mul]; exact kk)
theorem x_lcmp (hx : p.tables.exec = Jvm.exec) (hb : c.code = cc) {a b : Int} (hdg : decode cc pc = .ok (.lcmp, 1)) (hab : (-9223372036854775808 ≤ a ∧ a ≤ 9223372036854775807) ∧ (-9223372036854775808 ≤ b ∧ b ≤ 9223372036854775807)) (kk : W p l e R s m args below meth c H locs cells slots Q (F0 m (pc + 1) ls (.int (xI (xcmp a b)) :: rest))) : W p l e R s m args below meth c H locs cells slots Q (F0 m pc ls (.long (xL b) :: .long (xL a) :: rest)) := W.lcmp hx hb hdg (by rw [xcmp_e hab.1 hab.2]; exact kk)
theorem x_ldc2 (hx : p.tables.exec = Jvm.exec) (hb : c.code = cc) {own : String} {index : Nat} {v : Int64} {k : Int} (hown : s.vm.findClass own = some m.cls) (hconst : (Jvm.Cond.constantLong own index v).before args s = true) (hk : v = xL k) (hdg : decode cc pc = .ok (.ldc2_w index, 3)) (kk : W p l e R s m args below meth c H locs cells slots Q (F0 m (pc + 3) ls (.long (xL k) :: rest))) : W p l e R s m args below meth c H locs cells slots Q (F0 m pc ls rest) := lv_ldc2 hx hb hown hconst hdg (by rw [hk]; exact kk)
/-- a sign of a row -/
theorem x_rld (hx : p.tables.exec = Jvm.exec) (hb : c.code = cc) (hK : va_K D vwCl (xty cA) s) (hP : va_P D vwCl (xw n ad en) H) {i k : Nat} {f : Nat → Int} (hi : i + 1 < n) (hr : XR cA ad en i k f) {z : Int} (hz : 0 ≤ z ∧ z < k) (hdg : decode cc pc = .ok (.iaload, 1)) (kk : W p l e R s m args below meth c H locs cells slots Q (F0 m (pc + 1) ls (.int (xI (f z.toNat)) :: rest))) : W p l e R s m args below meth c H locs cells slots Q (F0 m pc ls (.int (xI z) :: .ref (ad (i + 1)) :: rest)) := by
  obtain ⟨a1, ⟨g, a2, a3⟩, a4, a5⟩ := hr
  exact x_ild hx hb hK hP hi a2 ⟨hz.1, by omega, by omega⟩ (a3 _ (by omega)) hdg kk
end XR3
theorem xcmp_gt {a b : Int} : 0 < xcmp a b ↔ b < a := by
  unfold xcmp
  split
  · omega
  · split <;> omega
theorem xcmp_ge {a b : Int} : 0 ≤ xcmp a b ↔ b ≤ a := by
  unfold xcmp
  split
  · omega
  · split <;> omega
theorem xcmp_ne {a b : Int} : ¬ xcmp a b = 0 ↔ ¬ a = b := by rw [xcmp_eq]
/-! what loops find -/
noncomputable def sp_u (P : Int → Prop) : Nat → Int → Int
  | 0, _ => -1
  | k + 1, a => @ite Int (P a) (Classical.propDecidable _) a (sp_u P k (a + 1))
/-- the least place from a on, below b -/
noncomputable def sp_find (P : Int → Prop) (a b : Int) : Int := sp_u P (b - a).toNat a
theorem sp_find_t {P : Int → Prop} {a b : Int} (h : a < b) (hp : P a) : sp_find P a b = a := by
  unfold sp_find
  rw [show (b - a).toNat = (b - (a + 1)).toNat + 1 by omega, sp_u, if_pos hp]
theorem sp_find_f {P : Int → Prop} {a b : Int} (h : a < b) (hp : ¬ P a) : sp_find P a b = sp_find P (a + 1) b := by
  unfold sp_find
  rw [show (b - a).toNat = (b - (a + 1)).toNat + 1 by omega, sp_u, if_neg hp]
theorem sp_find_e {P : Int → Prop} {a b : Int} (h : b ≤ a) : sp_find P a b = -1 := by
  unfold sp_find
  rw [show (b - a).toNat = 0 by omega, sp_u]
noncomputable def sp_d (P : Int → Prop) : Nat → Int
  | 0 => -1
  | k + 1 => @ite Int (P k) (Classical.propDecidable _) k (sp_d P k)
/-- the greatest place from a down -/
noncomputable def sp_rfind (P : Int → Prop) (a : Int) : Int := sp_d P (a + 1).toNat
theorem sp_rfind_t {P : Int → Prop} {a : Int} (h : 0 ≤ a) (hp : P a) : sp_rfind P a = a := by
  unfold sp_rfind
  rw [show (a + 1).toNat = a.toNat + 1 by omega, sp_d, show ((a.toNat : Nat) : Int) = a by omega, if_pos hp]
theorem sp_rfind_f {P : Int → Prop} {a : Int} (h : 0 ≤ a) (hp : ¬ P a) : sp_rfind P a = sp_rfind P (a - 1) := by
  unfold sp_rfind
  rw [show (a + 1).toNat = a.toNat + 1 by omega, sp_d, show ((a.toNat : Nat) : Int) = a by omega, if_neg hp, show (a - 1 + 1).toNat = a.toNat by omega]
theorem sp_rfind_e {P : Int → Prop} {a : Int} (h : a < 0) : sp_rfind P a = -1 := by
  unfold sp_rfind
  rw [show (a + 1).toNat = 0 by omega, sp_d]
theorem sp_find_c {P P' : Int → Prop} {a b : Int} (h : ∀ x : Int, a ≤ x → x < b → (P x ↔ P' x)) : sp_find P a b = sp_find P' a b := by
  generalize hk : (b - a).toNat = k
  induction k generalizing a with
  | zero => rw [sp_find_e (by omega), sp_find_e (by omega)]
  | succ k ih =>
    by_cases hp : P a
    · rw [sp_find_t (by omega) hp, sp_find_t (by omega) ((h a (by omega) (by omega)).mp hp)]
    · rw [sp_find_f (by omega) hp, sp_find_f (by omega) (fun z => hp ((h a (by omega) (by omega)).mpr z))]
      exact ih (fun x h1 h2 => h x (by omega) h2) (by omega)
theorem sp_rfind_c {P P' : Int → Prop} {a : Int} (h : ∀ x : Int, 0 ≤ x → x ≤ a → (P x ↔ P' x)) : sp_rfind P a = sp_rfind P' a := by
  generalize hk : (a + 1).toNat = k
  induction k generalizing a with
  | zero => rw [sp_rfind_e (by omega), sp_rfind_e (by omega)]
  | succ k ih =>
    by_cases hp : P a
    · rw [sp_rfind_t (by omega) hp, sp_rfind_t (by omega) ((h a (by omega) (by omega)).mp hp)]
    · rw [sp_rfind_f (by omega) hp, sp_rfind_f (by omega) (fun z => hp ((h a (by omega) (by omega)).mpr z))]
      exact ih (fun x h1 h2 => h x h1 (by omega)) (by omega)
/-- the order of two rows -/
def sp_o (f h : Nat → Int) (d : Int) : Nat → Nat → Int
  | 0, _ => d
  | k + 1, a => if f a = h a then sp_o f h d k (a + 1) else f a - h a
def sp_ord (f h : Nat → Int) (d a b : Int) : Int := sp_o f h d (b - a).toNat a.toNat
theorem sp_ord_t {f h : Nat → Int} {d a b : Int} (h0 : 0 ≤ a) (h1 : a < b) (hp : f a.toNat = h a.toNat) : sp_ord f h d a b = sp_ord f h d (a + 1) b := by
  unfold sp_ord
  rw [show (b - a).toNat = (b - (a + 1)).toNat + 1 by omega, sp_o, if_pos hp, show (a + 1).toNat = a.toNat + 1 by omega]
theorem sp_ord_f {f h : Nat → Int} {d a b : Int} (h1 : a < b) (hp : ¬ f a.toNat = h a.toNat) : sp_ord f h d a b = f a.toNat - h a.toNat := by
  unfold sp_ord
  rw [show (b - a).toNat = (b - (a + 1)).toNat + 1 by omega, sp_o, if_neg hp]
theorem sp_ord_e {f h : Nat → Int} {d a b : Int} (h1 : b ≤ a) : sp_ord f h d a b = d := by
  unfold sp_ord
  rw [show (b - a).toNat = 0 by omega, sp_o]
/-- past what is so: from a on, up to b -/
noncomputable def sp_w (P : Int → Prop) : Nat → Int → Int
  | 0, a => a
  | k + 1, a => @ite Int (P a) (Classical.propDecidable _) (sp_w P k (a + 1)) a
noncomputable def sp_while (P : Int → Prop) (a b : Int) : Int := sp_w P (b - a).toNat a
theorem sp_while_t {P : Int → Prop} {a b : Int} (h : a < b) (hp : P a) : sp_while P a b = sp_while P (a + 1) b := by
  unfold sp_while
  rw [show (b - a).toNat = (b - (a + 1)).toNat + 1 by omega, sp_w, if_pos hp]
theorem sp_while_f {P : Int → Prop} {a b : Int} (h : a < b) (hp : ¬ P a) : sp_while P a b = a := by
  unfold sp_while
  rw [show (b - a).toNat = (b - (a + 1)).toNat + 1 by omega, sp_w, if_neg hp]
theorem sp_while_e {P : Int → Prop} {a b : Int} (h : b ≤ a) : sp_while P a b = a := by
  unfold sp_while
  rw [show (b - a).toNat = 0 by omega, sp_w]
theorem sp_while_b {P : Int → Prop} {a b : Int} (h : a ≤ b) : a ≤ sp_while P a b ∧ sp_while P a b ≤ b := by
  generalize hk : (b - a).toNat = k
  induction k generalizing a with
  | zero => rw [sp_while_e (by omega)]; omega
  | succ k ih =>
    by_cases hp : P a
    · rw [sp_while_t (by omega) hp]
      have := ih (a := a + 1) (by omega) (by omega)
      omega
    · rw [sp_while_f (by omega) hp]; omega
/-- back over what is so: from b down to a -/
noncomputable def sp_bk (P : Int → Prop) (a : Int) : Nat → Int
  | 0 => a
  | k + 1 => @ite Int (P (a + k)) (Classical.propDecidable _) (sp_bk P a k) (a + k + 1)
noncomputable def sp_back (P : Int → Prop) (a b : Int) : Int := sp_bk P a (b - a).toNat
theorem sp_back_t {P : Int → Prop} {a b : Int} (h : a < b) (hp : P (b - 1)) : sp_back P a b = sp_back P a (b - 1) := by
  unfold sp_back
  rw [show (b - a).toNat = (b - 1 - a).toNat + 1 by omega, sp_bk, show a + ((b - 1 - a).toNat : Int) = b - 1 by omega, if_pos hp]
theorem sp_back_f {P : Int → Prop} {a b : Int} (h : a < b) (hp : ¬ P (b - 1)) : sp_back P a b = b := by
  unfold sp_back
  rw [show (b - a).toNat = (b - 1 - a).toNat + 1 by omega, sp_bk, show a + ((b - 1 - a).toNat : Int) = b - 1 by omega, if_neg hp]
  omega
theorem sp_back_e {P : Int → Prop} {a b : Int} (h : b ≤ a) : sp_back P a b = a := by
  unfold sp_back
  rw [show (b - a).toNat = 0 by omega, sp_bk]
theorem sp_back_b {P : Int → Prop} {a b : Int} (h : a ≤ b) : a ≤ sp_back P a b ∧ sp_back P a b ≤ b := by
  generalize hk : (b - a).toNat = k
  induction k generalizing b with
  | zero => rw [sp_back_e (by omega)]; omega
  | succ k ih =>
    by_cases hp : P (b - 1)
    · rw [sp_back_t (by omega) hp]
      have := ih (b := b - 1) (by omega) (by omega)
      omega
    · rw [sp_back_f (by omega) hp]; omega
/-- a row stands in another one -/
def sp_st (f : Nat → Int) (m : Nat) (h : Nat → Int) (k : Nat) (a : Int) : Prop := 0 ≤ a ∧ a + k ≤ m ∧ ∀ t : Nat, t < k → f (a.toNat + t) = h t
/-- a part of a row is another's -/
def sp_rg (f : Nat → Int) (m : Nat) (a : Int) (h : Nat → Int) (k : Nat) (b c : Int) : Prop := (0 ≤ a ∧ 0 ≤ b ∧ a + c ≤ m ∧ b + c ≤ k) ∧ ∀ t : Nat, (t : Int) < c → f (a.toNat + t) = h (b.toNat + t)
/-- a part of a row changed -/
def sp_ed (f : Nat → Int) (a b : Nat) (h : Nat → Int) (st len : Nat) : Nat → Int := fun t => if t < a then f t else if t < a + len then h (st + (t - a)) else f (t - (a + len) + b)

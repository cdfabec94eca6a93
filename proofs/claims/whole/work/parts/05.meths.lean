/-! ===== the methods, by number ===== -/
def zmi_c0 : List (MethodName × ByteArray × Nat × Option FieldType) := [(yX6_within, cX6_within, 3, (some .boolean)), (yX6_distance, cX6_distance, 4, (some .int)), (yX6_sign, cX6_sign, 1, (some .int)), (yX6_worthIn, cX6_worthIn, 2, (some .int)), (yX6_held, cX6_held, 3, (some .int)), (yX6_isCell, cX6_isCell, 1, (some .boolean)), (yX6_error, cX6_error, 2, (some .int)), (yX6_ground, cX6_ground, 4, (some .int)), (yX6_stand, cX6_stand, 3, (some .int)), (yX6_rule, cX6_rule, 4, (some .int)), (yX6_far, cX6_far, 3, (some .int)), (yX6_place, cX6_place, 4, (some .int)), (yX6_isPlace, cX6_isPlace, 2, (some .boolean)), (yX6_placeIs, cX6_placeIs, 3, (some .int)), (yX6_isUnder, cX6_isUnder, 4, (some .boolean)), (yX6_as, cX6_as, 4, (some .int)), (yX6_set, cX6_set, 6, (some .int)), (yX6_worth, cX6_worth, 3, (some .int)), (yX6_feed, cX6_feed, 4, (some .int)), (yX6_text, cX6_text, 3, (some .int)), (yX6_untell, cX6_untell, 2, (some .int)), (yX6_weeks, cX6_weeks, 2, (some .int)), (yX6_coins, cX6_coins, 3, (some .int)), (yX6_seed, cX6_seed, 3, (some .int)), (yX6_moves, cX6_moves, 3, (some .int)), (yX6_then, cX6_then, 2, (some .int)), (yX6_thenPlace, cX6_thenPlace, 4, (some .int)), (yX6_whose, cX6_whose, 2, (some .int)), (yX6_comes, cX6_comes, 4, (some .int)), (yX6_least, cX6_least, 6, (some .int)), (yX6_hush, cX6_hush, 7, (some .int)), (yX6_best, cX6_best, 6, (some .int)), (yX6_beside, cX6_beside, 7, (some .int)), (yX6_round, cX6_round, 4, (some .int)), (yX6_share, cX6_share, 3, (some .int)), (yX6_voice, cX6_voice, 6, (some .int)), (yX6_body, cX6_body, 2, (some .int)), (yX6_isSheet, cX6_isSheet, 1, (some .boolean)), (yX6_sheet, cX6_sheet, 4, (some .int)), (yX6_put, cX6_put, 5, (some .int)), (yX6_move, cX6_move, 8, (some .int)), (yX6_voices, cX6_voices, 4, (some .int)), (yX6_judge, cX6_judge, 4, (some .int)), (yX6_image, cX6_image, 1, (some .int)), (yX6_restore, cX6_restore, 1, (some .int)), (yX6_tell, cX6_tell, 2, (some .int)), (yX6_check, cX6_check, 4, (some .int)), (yX6_count, cX6_count, 2, (some .int)), (yX6_told, cX6_told, 2, (some .int)), (yX5_restart, cX5_restart, 3, none), (yX5_become, cX5_become, 2, none), (yX5_settle, cX5_settle, 6, none), (yX5_leaguesNear, cX5_leaguesNear, 5, (some .int)), (yX5_called, cX5_called, 3, (some .int)), (yX5_isRiver, cX5_isRiver, 2, (some .boolean)), (yX5_nextCell, cX5_nextCell, 11, (some .int)), (yX5_gainOf, cX5_gainOf, 3, (some .int)), (yX5_costOf, cX5_costOf, 3, (some .int)), (yX5_shoutOf, cX5_shoutOf, 7, (some .int)), (yX5_detail, cX5_detail, 3, (some .int)), (yX5_textOf, cX5_textOf, 2, (some (.object "LoudMarket$Text"))), (yX5_tapeOn, cX5_tapeOn, 5, none), (yX5_takeShouts, cX5_takeShouts, 2, none), (yX5_loudest, cX5_loudest, 4, (some .int))]
def zmi_c1 : List (MethodName × ByteArray × Nat × Option FieldType) := [(yX5_mayGo, cX5_mayGo, 1, (some .boolean)), (yX5_goByPulls, cX5_goByPulls, 5, none), (yX5_goFor, cX5_goFor, 2, none), (yX5_goByLaw, cX5_goByLaw, 1, none), (yX5_payShouts, cX5_payShouts, 4, none), (yX5_endWeek, cX5_endWeek, 4, none), (yX5_pass, cX5_pass, 3, none), (yX5_coinWeek, cX5_coinWeek, 2, none), (yX5_moveHouse, cX5_moveHouse, 2, (some .boolean)), (yX5_worthsIn, cX5_worthsIn, 4, (some .int)), (yX5_richest, cX5_richest, 3, (some .int)), (yX5_leastPurse, cX5_leastPurse, 3, (some .int)), (yX5_purses, cX5_purses, 3, (some .int)), (yX5_rivers, cX5_rivers, 3, (some .int)), (yX4_start, cX4_start, 1, none), (yX4_add, cX4_add, 3, none), (yX4_become, cX4_become, 2, none), (yX4_unmake, cX4_unmake, 2, (some .boolean)), (yX4_joined, cX4_joined, 3, (some .int)), (yX4_value, cX4_value, 6, (some .int)), (yX0_signsOf, cX0_signsOf, 1, (some (.object "java/lang/String"))), (yX0_next, cX0_next, 1, (some .int)), (yX0_nextIs, cX0_nextIs, 3, (some .boolean)), (yX0_readNumber, cX0_readNumber, 3, none), (yX0_fail, cX0_fail, 1, none), (yX0_readJoined, cX0_readJoined, 6, none), (yX0_readQ, cX0_readQ, 3, none), (yX0_read, cX0_read, 4, (some .int)), (yX3_begin, cX3_begin, 2, none), (yX3_parts, cX3_parts, 3, (some .int)), (yX3_above, cX3_above, 5, (some .int)), (yX3_from, cX3_from, 8, (some .int)), (yX3_own, cX3_own, 4, (some .int)), (yX3_work, cX3_work, 4, (some .int)), (yX3_speak, cX3_speak, 6, (some .int)), (yX1_see, cX1_see, 5, none), (yX1_isAlike, cX1_isAlike, 3, (some .boolean)), (yX1_alike, cX1_alike, 3, (some .int)), (yX2_isMissing, cX2_isMissing, 1, (some .boolean)), (yX2_lay, cX2_lay, 4, none), (yX2_write, cX2_write, 3, none), (yX2_hasRun, cX2_hasRun, 3, (some .boolean)), (yX7_error, cX7_error, 2, (some .int)), (yX7_in, cX7_in, 3, (some .boolean)), (yX7_held, cX7_held, 3, (some .int)), (yX7_carry, cX7_carry, 3, none), (yX7_isCell, cX7_isCell, 1, (some .boolean)), (yX7_isPlace, cX7_isPlace, 2, (some .boolean)), (yX7_its, cX7_its, 3, (some .int)), (yX7_size, cX7_size, 1, (some .int)), (yX7_farOf, cX7_farOf, 2, (some .int)), (yX7_isRiver, cX7_isRiver, 2, (some .boolean)), (yX7_ground, cX7_ground, 4, (some .int)), (yX7_stand, cX7_stand, 3, (some .int)), (yX7_rule, cX7_rule, 4, (some .int)), (yX7_far, cX7_far, 3, (some .int)), (yX7_place, cX7_place, 5, (some .int)), (yX7_hasText, cX7_hasText, 2, (some .boolean)), (yX7_joined, cX7_joined, 3, (some .int)), (yX7_worked, cX7_worked, 7, (some .int)), (yX7_called, cX7_called, 2, (some .int)), (yX7_stepOf, cX7_stepOf, 4, (some .int)), (yX7_mayStep, cX7_mayStep, 4, (some .boolean)), (yX7_goesFor, cX7_goesFor, 7, (some .int))]
def zmi_c2 : List (MethodName × ByteArray × Nat × Option FieldType) := [(yX7_worthOf, cX7_worthOf, 4, (some .int)), (yX7_costOf, cX7_costOf, 3, (some .int)), (yX7_plainShout, cX7_plainShout, 7, (some .int)), (yX7_shout, cX7_shout, 2, (some .int)), (yX7_toldOf, cX7_toldOf, 3, (some .int)), (yX7_placeIs, cX7_placeIs, 3, (some .int)), (yX7_isUnder, cX7_isUnder, 2, (some .boolean)), (yX7_as, cX7_as, 3, (some .int)), (yX7_set, cX7_set, 7, (some .int)), (yX7_worth, cX7_worth, 3, (some .int)), (yX7_feed, cX7_feed, 5, (some .int)), (yX7_look, cX7_look, 1, (some .int)), (yX7_isName, cX7_isName, 2, (some .boolean)), (yX7_lays, cX7_lays, 3, none), (yX7_opens, cX7_opens, 1, (some .boolean)), (yX7_both, cX7_both, 1, (some .boolean)), (yX7_compared, cX7_compared, 2, (some .boolean)), (yX7_one, cX7_one, 4, (some .boolean)), (yX7_product, cX7_product, 2, (some .boolean)), (yX7_sum, cX7_sum, 2, (some .boolean)), (yX7_whole, cX7_whole, 1, (some .boolean)), (yX7_text, cX7_text, 5, (some .int)), (yX7_untell, cX7_untell, 3, (some .int)), (yX7_findShouts, cX7_findShouts, 2, none), (yX7_loudest, cX7_loudest, 4, (some .int)), (yX7_pulled, cX7_pulled, 7, (some .int)), (yX7_mayGo, cX7_mayGo, 1, (some .boolean)), (yX7_pays, cX7_pays, 4, none), (yX7_ends, cX7_ends, 2, none), (yX7_week, cX7_week, 3, none), (yX7_draw, cX7_draw, 1, (some .int)), (yX7_coinWeek, cX7_coinWeek, 2, none), (yX7_go, cX7_go, 3, none), (yX7_weeks, cX7_weeks, 2, (some .int)), (yX7_coins, cX7_coins, 3, (some .int)), (yX7_seed, cX7_seed, 3, (some .int)), (yX7_moves, cX7_moves, 4, (some .int)), (yX7_isAhead, cX7_isAhead, 1, (some .boolean)), (yX7_then, cX7_then, 3, (some .int)), (yX7_thenOf, cX7_thenOf, 5, (some .int)), (yX7_thenPlace, cX7_thenPlace, 4, (some .int)), (yX7_whose, cX7_whose, 1, (some .int)), (yX7_comesTo, cX7_comesTo, 5, (some .int)), (yX7_comes, cX7_comes, 4, (some .int)), (yX7_least, cX7_least, 7, (some .int)), (yX7_thenHushed, cX7_thenHushed, 7, (some .int)), (yX7_hush, cX7_hush, 7, (some .int)), (yX7_worths, cX7_worths, 4, (some .int)), (yX7_best, cX7_best, 5, (some .int)), (yX7_beside, cX7_beside, 9, (some .int)), (yX7_isAs, cX7_isAs, 5, (some .boolean)), (yX7_round, cX7_round, 5, (some .int)), (yX7_share, cX7_share, 5, (some .int)), (yX7_begins, cX7_begins, 2, none), (yX7_above, cX7_above, 1, (some .int)), (yX7_kindNow, cX7_kindNow, 1, (some .int)), (yX7_mNow, cX7_mNow, 1, (some .int)), (yX7_calls, cX7_calls, 3, (some .int)), (yX7_goes, cX7_goes, 3, (some .int)), (yX7_rests, cX7_rests, 3, (some .int)), (yX7_paysBy, cX7_paysBy, 5, (some .int)), (yX7_voice, cX7_voice, 6, (some .int)), (yX7_body, cX7_body, 2, (some .int)), (yX7_isSheet, cX7_isSheet, 1, (some .boolean))]
def zmi_c3 : List (MethodName × ByteArray × Nat × Option FieldType) := [(yX7_sheet, cX7_sheet, 5, (some .int)), (yX7_put, cX7_put, 5, (some .int)), (yX7_move, cX7_move, 7, (some .int)), (yX7_lacks, cX7_lacks, 2, (some .int)), (yX7_voices, cX7_voices, 4, (some .int)), (yX7_judge, cX7_judge, 5, (some .int)), (yX7_image, cX7_image, 1, (some .int)), (yX7_restore, cX7_restore, 1, (some .int)), (yX7_tell, cX7_tell, 2, (some .int)), (yX7_check, cX7_check, 3, (some .int)), (yX7_count, cX7_count, 4, (some .int)), (yX7_told, cX7_told, 2, (some .int)), (yJ9_abs_0f7a4, cJ9_abs_0f7a4, 1, (some .int)), (yJ9_max_7cf53, cJ9_max_7cf53, 2, (some .int)), (yJ9_min_7cf53, cJ9_min_7cf53, 2, (some .int)), (yJ0_isLatin1_aae02, cJ0_isLatin1_aae02, 1, (some .boolean)), (yJ0_coder_7d493, cJ0_coder_7d493, 1, (some .byte)), (yJ0_length_8abf5, cJ0_length_8abf5, 1, (some .int)), (yJ0_indexOf_7cf53, cJ0_indexOf_7cf53, 3, (some .int)), (yJ0_indexOf_0f7a4, cJ0_indexOf_0f7a4, 2, (some .int)), (yJ1_canEncode_9a6ad, cJ1_canEncode_9a6ad, 1, (some .boolean)), (yJ1_indexOfChar_4cfef, cJ1_indexOfChar_4cfef, 6, (some .int)), (yJ1_indexOf_4cfef, cJ1_indexOf_4cfef, 4, (some .int))]
def zmi_l : List (MethodName × ByteArray × Nat × Option FieldType) := zmi_c0 ++ (zmi_c1 ++ (zmi_c2 ++ (zmi_c3)))
def zmi (k : Nat) : MethodName × ByteArray × Nat × Option FieldType := zmi_l.getD k (yL_law, code, 4, some .boolean)
abbrev zy (k : Nat) : MethodName := (zmi k).1
abbrev zcode (k : Nat) : ByteArray := (zmi k).2.1
abbrev znl (k : Nat) : Nat := (zmi k).2.2.1
abbrev zret (k : Nat) : Option FieldType := (zmi k).2.2.2
theorem zmi_0 : zmi 0 = (yX6_within, cX6_within, 3, (some .boolean)) := rfl
theorem zmi_1 : zmi 1 = (yX6_distance, cX6_distance, 4, (some .int)) := rfl
theorem zmi_2 : zmi 2 = (yX6_sign, cX6_sign, 1, (some .int)) := rfl
theorem zmi_3 : zmi 3 = (yX6_worthIn, cX6_worthIn, 2, (some .int)) := rfl
theorem zmi_4 : zmi 4 = (yX6_held, cX6_held, 3, (some .int)) := rfl
theorem zmi_5 : zmi 5 = (yX6_isCell, cX6_isCell, 1, (some .boolean)) := rfl
theorem zmi_6 : zmi 6 = (yX6_error, cX6_error, 2, (some .int)) := rfl
theorem zmi_7 : zmi 7 = (yX6_ground, cX6_ground, 4, (some .int)) := rfl
theorem zmi_8 : zmi 8 = (yX6_stand, cX6_stand, 3, (some .int)) := rfl
theorem zmi_9 : zmi 9 = (yX6_rule, cX6_rule, 4, (some .int)) := rfl
theorem zmi_10 : zmi 10 = (yX6_far, cX6_far, 3, (some .int)) := rfl
theorem zmi_11 : zmi 11 = (yX6_place, cX6_place, 4, (some .int)) := rfl
theorem zmi_12 : zmi 12 = (yX6_isPlace, cX6_isPlace, 2, (some .boolean)) := rfl
theorem zmi_13 : zmi 13 = (yX6_placeIs, cX6_placeIs, 3, (some .int)) := rfl
theorem zmi_14 : zmi 14 = (yX6_isUnder, cX6_isUnder, 4, (some .boolean)) := rfl
theorem zmi_15 : zmi 15 = (yX6_as, cX6_as, 4, (some .int)) := rfl
theorem zmi_16 : zmi 16 = (yX6_set, cX6_set, 6, (some .int)) := rfl
theorem zmi_17 : zmi 17 = (yX6_worth, cX6_worth, 3, (some .int)) := rfl
theorem zmi_18 : zmi 18 = (yX6_feed, cX6_feed, 4, (some .int)) := rfl
theorem zmi_19 : zmi 19 = (yX6_text, cX6_text, 3, (some .int)) := rfl
theorem zmi_20 : zmi 20 = (yX6_untell, cX6_untell, 2, (some .int)) := rfl
theorem zmi_21 : zmi 21 = (yX6_weeks, cX6_weeks, 2, (some .int)) := rfl
theorem zmi_22 : zmi 22 = (yX6_coins, cX6_coins, 3, (some .int)) := rfl
theorem zmi_23 : zmi 23 = (yX6_seed, cX6_seed, 3, (some .int)) := rfl
theorem zmi_24 : zmi 24 = (yX6_moves, cX6_moves, 3, (some .int)) := rfl
theorem zmi_25 : zmi 25 = (yX6_then, cX6_then, 2, (some .int)) := rfl
theorem zmi_26 : zmi 26 = (yX6_thenPlace, cX6_thenPlace, 4, (some .int)) := rfl
theorem zmi_27 : zmi 27 = (yX6_whose, cX6_whose, 2, (some .int)) := rfl
theorem zmi_28 : zmi 28 = (yX6_comes, cX6_comes, 4, (some .int)) := rfl
theorem zmi_29 : zmi 29 = (yX6_least, cX6_least, 6, (some .int)) := rfl
theorem zmi_30 : zmi 30 = (yX6_hush, cX6_hush, 7, (some .int)) := rfl
theorem zmi_31 : zmi 31 = (yX6_best, cX6_best, 6, (some .int)) := rfl
theorem zmi_32 : zmi 32 = (yX6_beside, cX6_beside, 7, (some .int)) := rfl
theorem zmi_33 : zmi 33 = (yX6_round, cX6_round, 4, (some .int)) := rfl
theorem zmi_34 : zmi 34 = (yX6_share, cX6_share, 3, (some .int)) := rfl
theorem zmi_35 : zmi 35 = (yX6_voice, cX6_voice, 6, (some .int)) := rfl
theorem zmi_36 : zmi 36 = (yX6_body, cX6_body, 2, (some .int)) := rfl
theorem zmi_37 : zmi 37 = (yX6_isSheet, cX6_isSheet, 1, (some .boolean)) := rfl
theorem zmi_38 : zmi 38 = (yX6_sheet, cX6_sheet, 4, (some .int)) := rfl
theorem zmi_39 : zmi 39 = (yX6_put, cX6_put, 5, (some .int)) := rfl
theorem zmi_40 : zmi 40 = (yX6_move, cX6_move, 8, (some .int)) := rfl
theorem zmi_41 : zmi 41 = (yX6_voices, cX6_voices, 4, (some .int)) := rfl
theorem zmi_42 : zmi 42 = (yX6_judge, cX6_judge, 4, (some .int)) := rfl
theorem zmi_43 : zmi 43 = (yX6_image, cX6_image, 1, (some .int)) := rfl
theorem zmi_44 : zmi 44 = (yX6_restore, cX6_restore, 1, (some .int)) := rfl
theorem zmi_45 : zmi 45 = (yX6_tell, cX6_tell, 2, (some .int)) := rfl
theorem zmi_46 : zmi 46 = (yX6_check, cX6_check, 4, (some .int)) := rfl
theorem zmi_47 : zmi 47 = (yX6_count, cX6_count, 2, (some .int)) := rfl
theorem zmi_48 : zmi 48 = (yX6_told, cX6_told, 2, (some .int)) := rfl
theorem zmi_49 : zmi 49 = (yX5_restart, cX5_restart, 3, none) := rfl
theorem zmi_50 : zmi 50 = (yX5_become, cX5_become, 2, none) := rfl
theorem zmi_51 : zmi 51 = (yX5_settle, cX5_settle, 6, none) := rfl
theorem zmi_52 : zmi 52 = (yX5_leaguesNear, cX5_leaguesNear, 5, (some .int)) := rfl
theorem zmi_53 : zmi 53 = (yX5_called, cX5_called, 3, (some .int)) := rfl
theorem zmi_54 : zmi 54 = (yX5_isRiver, cX5_isRiver, 2, (some .boolean)) := rfl
theorem zmi_55 : zmi 55 = (yX5_nextCell, cX5_nextCell, 11, (some .int)) := rfl
theorem zmi_56 : zmi 56 = (yX5_gainOf, cX5_gainOf, 3, (some .int)) := rfl
theorem zmi_57 : zmi 57 = (yX5_costOf, cX5_costOf, 3, (some .int)) := rfl
theorem zmi_58 : zmi 58 = (yX5_shoutOf, cX5_shoutOf, 7, (some .int)) := rfl
theorem zmi_59 : zmi 59 = (yX5_detail, cX5_detail, 3, (some .int)) := rfl
theorem zmi_60 : zmi 60 = (yX5_textOf, cX5_textOf, 2, (some (.object "LoudMarket$Text"))) := rfl
theorem zmi_61 : zmi 61 = (yX5_tapeOn, cX5_tapeOn, 5, none) := rfl
theorem zmi_62 : zmi 62 = (yX5_takeShouts, cX5_takeShouts, 2, none) := rfl
theorem zmi_63 : zmi 63 = (yX5_loudest, cX5_loudest, 4, (some .int)) := rfl
theorem zmi_64 : zmi 64 = (yX5_mayGo, cX5_mayGo, 1, (some .boolean)) := rfl
theorem zmi_65 : zmi 65 = (yX5_goByPulls, cX5_goByPulls, 5, none) := rfl
theorem zmi_66 : zmi 66 = (yX5_goFor, cX5_goFor, 2, none) := rfl
theorem zmi_67 : zmi 67 = (yX5_goByLaw, cX5_goByLaw, 1, none) := rfl
theorem zmi_68 : zmi 68 = (yX5_payShouts, cX5_payShouts, 4, none) := rfl
theorem zmi_69 : zmi 69 = (yX5_endWeek, cX5_endWeek, 4, none) := rfl
theorem zmi_70 : zmi 70 = (yX5_pass, cX5_pass, 3, none) := rfl
theorem zmi_71 : zmi 71 = (yX5_coinWeek, cX5_coinWeek, 2, none) := rfl
theorem zmi_72 : zmi 72 = (yX5_moveHouse, cX5_moveHouse, 2, (some .boolean)) := rfl
theorem zmi_73 : zmi 73 = (yX5_worthsIn, cX5_worthsIn, 4, (some .int)) := rfl
theorem zmi_74 : zmi 74 = (yX5_richest, cX5_richest, 3, (some .int)) := rfl
theorem zmi_75 : zmi 75 = (yX5_leastPurse, cX5_leastPurse, 3, (some .int)) := rfl
theorem zmi_76 : zmi 76 = (yX5_purses, cX5_purses, 3, (some .int)) := rfl
theorem zmi_77 : zmi 77 = (yX5_rivers, cX5_rivers, 3, (some .int)) := rfl
theorem zmi_78 : zmi 78 = (yX4_start, cX4_start, 1, none) := rfl
theorem zmi_79 : zmi 79 = (yX4_add, cX4_add, 3, none) := rfl
theorem zmi_80 : zmi 80 = (yX4_become, cX4_become, 2, none) := rfl
theorem zmi_81 : zmi 81 = (yX4_unmake, cX4_unmake, 2, (some .boolean)) := rfl
theorem zmi_82 : zmi 82 = (yX4_joined, cX4_joined, 3, (some .int)) := rfl
theorem zmi_83 : zmi 83 = (yX4_value, cX4_value, 6, (some .int)) := rfl
theorem zmi_84 : zmi 84 = (yX0_signsOf, cX0_signsOf, 1, (some (.object "java/lang/String"))) := rfl
theorem zmi_85 : zmi 85 = (yX0_next, cX0_next, 1, (some .int)) := rfl
theorem zmi_86 : zmi 86 = (yX0_nextIs, cX0_nextIs, 3, (some .boolean)) := rfl
theorem zmi_87 : zmi 87 = (yX0_readNumber, cX0_readNumber, 3, none) := rfl
theorem zmi_88 : zmi 88 = (yX0_fail, cX0_fail, 1, none) := rfl
theorem zmi_89 : zmi 89 = (yX0_readJoined, cX0_readJoined, 6, none) := rfl
theorem zmi_90 : zmi 90 = (yX0_readQ, cX0_readQ, 3, none) := rfl
theorem zmi_91 : zmi 91 = (yX0_read, cX0_read, 4, (some .int)) := rfl
theorem zmi_92 : zmi 92 = (yX3_begin, cX3_begin, 2, none) := rfl
theorem zmi_93 : zmi 93 = (yX3_parts, cX3_parts, 3, (some .int)) := rfl
theorem zmi_94 : zmi 94 = (yX3_above, cX3_above, 5, (some .int)) := rfl
theorem zmi_95 : zmi 95 = (yX3_from, cX3_from, 8, (some .int)) := rfl
theorem zmi_96 : zmi 96 = (yX3_own, cX3_own, 4, (some .int)) := rfl
theorem zmi_97 : zmi 97 = (yX3_work, cX3_work, 4, (some .int)) := rfl
theorem zmi_98 : zmi 98 = (yX3_speak, cX3_speak, 6, (some .int)) := rfl
theorem zmi_99 : zmi 99 = (yX1_see, cX1_see, 5, none) := rfl
theorem zmi_100 : zmi 100 = (yX1_isAlike, cX1_isAlike, 3, (some .boolean)) := rfl
theorem zmi_101 : zmi 101 = (yX1_alike, cX1_alike, 3, (some .int)) := rfl
theorem zmi_102 : zmi 102 = (yX2_isMissing, cX2_isMissing, 1, (some .boolean)) := rfl
theorem zmi_103 : zmi 103 = (yX2_lay, cX2_lay, 4, none) := rfl
theorem zmi_104 : zmi 104 = (yX2_write, cX2_write, 3, none) := rfl
theorem zmi_105 : zmi 105 = (yX2_hasRun, cX2_hasRun, 3, (some .boolean)) := rfl
theorem zmi_106 : zmi 106 = (yX7_error, cX7_error, 2, (some .int)) := rfl
theorem zmi_107 : zmi 107 = (yX7_in, cX7_in, 3, (some .boolean)) := rfl
theorem zmi_108 : zmi 108 = (yX7_held, cX7_held, 3, (some .int)) := rfl
theorem zmi_109 : zmi 109 = (yX7_carry, cX7_carry, 3, none) := rfl
theorem zmi_110 : zmi 110 = (yX7_isCell, cX7_isCell, 1, (some .boolean)) := rfl
theorem zmi_111 : zmi 111 = (yX7_isPlace, cX7_isPlace, 2, (some .boolean)) := rfl
theorem zmi_112 : zmi 112 = (yX7_its, cX7_its, 3, (some .int)) := rfl
theorem zmi_113 : zmi 113 = (yX7_size, cX7_size, 1, (some .int)) := rfl
theorem zmi_114 : zmi 114 = (yX7_farOf, cX7_farOf, 2, (some .int)) := rfl
theorem zmi_115 : zmi 115 = (yX7_isRiver, cX7_isRiver, 2, (some .boolean)) := rfl
theorem zmi_116 : zmi 116 = (yX7_ground, cX7_ground, 4, (some .int)) := rfl
theorem zmi_117 : zmi 117 = (yX7_stand, cX7_stand, 3, (some .int)) := rfl
theorem zmi_118 : zmi 118 = (yX7_rule, cX7_rule, 4, (some .int)) := rfl
theorem zmi_119 : zmi 119 = (yX7_far, cX7_far, 3, (some .int)) := rfl
theorem zmi_120 : zmi 120 = (yX7_place, cX7_place, 5, (some .int)) := rfl
theorem zmi_121 : zmi 121 = (yX7_hasText, cX7_hasText, 2, (some .boolean)) := rfl
theorem zmi_122 : zmi 122 = (yX7_joined, cX7_joined, 3, (some .int)) := rfl
theorem zmi_123 : zmi 123 = (yX7_worked, cX7_worked, 7, (some .int)) := rfl
theorem zmi_124 : zmi 124 = (yX7_called, cX7_called, 2, (some .int)) := rfl
theorem zmi_125 : zmi 125 = (yX7_stepOf, cX7_stepOf, 4, (some .int)) := rfl
theorem zmi_126 : zmi 126 = (yX7_mayStep, cX7_mayStep, 4, (some .boolean)) := rfl
theorem zmi_127 : zmi 127 = (yX7_goesFor, cX7_goesFor, 7, (some .int)) := rfl
theorem zmi_128 : zmi 128 = (yX7_worthOf, cX7_worthOf, 4, (some .int)) := rfl
theorem zmi_129 : zmi 129 = (yX7_costOf, cX7_costOf, 3, (some .int)) := rfl
theorem zmi_130 : zmi 130 = (yX7_plainShout, cX7_plainShout, 7, (some .int)) := rfl
theorem zmi_131 : zmi 131 = (yX7_shout, cX7_shout, 2, (some .int)) := rfl
theorem zmi_132 : zmi 132 = (yX7_toldOf, cX7_toldOf, 3, (some .int)) := rfl
theorem zmi_133 : zmi 133 = (yX7_placeIs, cX7_placeIs, 3, (some .int)) := rfl
theorem zmi_134 : zmi 134 = (yX7_isUnder, cX7_isUnder, 2, (some .boolean)) := rfl
theorem zmi_135 : zmi 135 = (yX7_as, cX7_as, 3, (some .int)) := rfl
theorem zmi_136 : zmi 136 = (yX7_set, cX7_set, 7, (some .int)) := rfl
theorem zmi_137 : zmi 137 = (yX7_worth, cX7_worth, 3, (some .int)) := rfl
theorem zmi_138 : zmi 138 = (yX7_feed, cX7_feed, 5, (some .int)) := rfl
theorem zmi_139 : zmi 139 = (yX7_look, cX7_look, 1, (some .int)) := rfl
theorem zmi_140 : zmi 140 = (yX7_isName, cX7_isName, 2, (some .boolean)) := rfl
theorem zmi_141 : zmi 141 = (yX7_lays, cX7_lays, 3, none) := rfl
theorem zmi_142 : zmi 142 = (yX7_opens, cX7_opens, 1, (some .boolean)) := rfl
theorem zmi_143 : zmi 143 = (yX7_both, cX7_both, 1, (some .boolean)) := rfl
theorem zmi_144 : zmi 144 = (yX7_compared, cX7_compared, 2, (some .boolean)) := rfl
theorem zmi_145 : zmi 145 = (yX7_one, cX7_one, 4, (some .boolean)) := rfl
theorem zmi_146 : zmi 146 = (yX7_product, cX7_product, 2, (some .boolean)) := rfl
theorem zmi_147 : zmi 147 = (yX7_sum, cX7_sum, 2, (some .boolean)) := rfl
theorem zmi_148 : zmi 148 = (yX7_whole, cX7_whole, 1, (some .boolean)) := rfl
theorem zmi_149 : zmi 149 = (yX7_text, cX7_text, 5, (some .int)) := rfl
theorem zmi_150 : zmi 150 = (yX7_untell, cX7_untell, 3, (some .int)) := rfl
theorem zmi_151 : zmi 151 = (yX7_findShouts, cX7_findShouts, 2, none) := rfl
theorem zmi_152 : zmi 152 = (yX7_loudest, cX7_loudest, 4, (some .int)) := rfl
theorem zmi_153 : zmi 153 = (yX7_pulled, cX7_pulled, 7, (some .int)) := rfl
theorem zmi_154 : zmi 154 = (yX7_mayGo, cX7_mayGo, 1, (some .boolean)) := rfl
theorem zmi_155 : zmi 155 = (yX7_pays, cX7_pays, 4, none) := rfl
theorem zmi_156 : zmi 156 = (yX7_ends, cX7_ends, 2, none) := rfl
theorem zmi_157 : zmi 157 = (yX7_week, cX7_week, 3, none) := rfl
theorem zmi_158 : zmi 158 = (yX7_draw, cX7_draw, 1, (some .int)) := rfl
theorem zmi_159 : zmi 159 = (yX7_coinWeek, cX7_coinWeek, 2, none) := rfl
theorem zmi_160 : zmi 160 = (yX7_go, cX7_go, 3, none) := rfl
theorem zmi_161 : zmi 161 = (yX7_weeks, cX7_weeks, 2, (some .int)) := rfl
theorem zmi_162 : zmi 162 = (yX7_coins, cX7_coins, 3, (some .int)) := rfl
theorem zmi_163 : zmi 163 = (yX7_seed, cX7_seed, 3, (some .int)) := rfl
theorem zmi_164 : zmi 164 = (yX7_moves, cX7_moves, 4, (some .int)) := rfl
theorem zmi_165 : zmi 165 = (yX7_isAhead, cX7_isAhead, 1, (some .boolean)) := rfl
theorem zmi_166 : zmi 166 = (yX7_then, cX7_then, 3, (some .int)) := rfl
theorem zmi_167 : zmi 167 = (yX7_thenOf, cX7_thenOf, 5, (some .int)) := rfl
theorem zmi_168 : zmi 168 = (yX7_thenPlace, cX7_thenPlace, 4, (some .int)) := rfl
theorem zmi_169 : zmi 169 = (yX7_whose, cX7_whose, 1, (some .int)) := rfl
theorem zmi_170 : zmi 170 = (yX7_comesTo, cX7_comesTo, 5, (some .int)) := rfl
theorem zmi_171 : zmi 171 = (yX7_comes, cX7_comes, 4, (some .int)) := rfl
theorem zmi_172 : zmi 172 = (yX7_least, cX7_least, 7, (some .int)) := rfl
theorem zmi_173 : zmi 173 = (yX7_thenHushed, cX7_thenHushed, 7, (some .int)) := rfl
theorem zmi_174 : zmi 174 = (yX7_hush, cX7_hush, 7, (some .int)) := rfl
theorem zmi_175 : zmi 175 = (yX7_worths, cX7_worths, 4, (some .int)) := rfl
theorem zmi_176 : zmi 176 = (yX7_best, cX7_best, 5, (some .int)) := rfl
theorem zmi_177 : zmi 177 = (yX7_beside, cX7_beside, 9, (some .int)) := rfl
theorem zmi_178 : zmi 178 = (yX7_isAs, cX7_isAs, 5, (some .boolean)) := rfl
theorem zmi_179 : zmi 179 = (yX7_round, cX7_round, 5, (some .int)) := rfl
theorem zmi_180 : zmi 180 = (yX7_share, cX7_share, 5, (some .int)) := rfl
theorem zmi_181 : zmi 181 = (yX7_begins, cX7_begins, 2, none) := rfl
theorem zmi_182 : zmi 182 = (yX7_above, cX7_above, 1, (some .int)) := rfl
theorem zmi_183 : zmi 183 = (yX7_kindNow, cX7_kindNow, 1, (some .int)) := rfl
theorem zmi_184 : zmi 184 = (yX7_mNow, cX7_mNow, 1, (some .int)) := rfl
theorem zmi_185 : zmi 185 = (yX7_calls, cX7_calls, 3, (some .int)) := rfl
theorem zmi_186 : zmi 186 = (yX7_goes, cX7_goes, 3, (some .int)) := rfl
theorem zmi_187 : zmi 187 = (yX7_rests, cX7_rests, 3, (some .int)) := rfl
theorem zmi_188 : zmi 188 = (yX7_paysBy, cX7_paysBy, 5, (some .int)) := rfl
theorem zmi_189 : zmi 189 = (yX7_voice, cX7_voice, 6, (some .int)) := rfl
theorem zmi_190 : zmi 190 = (yX7_body, cX7_body, 2, (some .int)) := rfl
theorem zmi_191 : zmi 191 = (yX7_isSheet, cX7_isSheet, 1, (some .boolean)) := rfl
theorem zmi_192 : zmi 192 = (yX7_sheet, cX7_sheet, 5, (some .int)) := rfl
theorem zmi_193 : zmi 193 = (yX7_put, cX7_put, 5, (some .int)) := rfl
theorem zmi_194 : zmi 194 = (yX7_move, cX7_move, 7, (some .int)) := rfl
theorem zmi_195 : zmi 195 = (yX7_lacks, cX7_lacks, 2, (some .int)) := rfl
theorem zmi_196 : zmi 196 = (yX7_voices, cX7_voices, 4, (some .int)) := rfl
theorem zmi_197 : zmi 197 = (yX7_judge, cX7_judge, 5, (some .int)) := rfl
theorem zmi_198 : zmi 198 = (yX7_image, cX7_image, 1, (some .int)) := rfl
theorem zmi_199 : zmi 199 = (yX7_restore, cX7_restore, 1, (some .int)) := rfl
theorem zmi_200 : zmi 200 = (yX7_tell, cX7_tell, 2, (some .int)) := rfl
theorem zmi_201 : zmi 201 = (yX7_check, cX7_check, 3, (some .int)) := rfl
theorem zmi_202 : zmi 202 = (yX7_count, cX7_count, 4, (some .int)) := rfl
theorem zmi_203 : zmi 203 = (yX7_told, cX7_told, 2, (some .int)) := rfl
theorem zmi_204 : zmi 204 = (yJ9_abs_0f7a4, cJ9_abs_0f7a4, 1, (some .int)) := rfl
theorem zmi_205 : zmi 205 = (yJ9_max_7cf53, cJ9_max_7cf53, 2, (some .int)) := rfl
theorem zmi_206 : zmi 206 = (yJ9_min_7cf53, cJ9_min_7cf53, 2, (some .int)) := rfl
theorem zmi_207 : zmi 207 = (yJ0_isLatin1_aae02, cJ0_isLatin1_aae02, 1, (some .boolean)) := rfl
theorem zmi_208 : zmi 208 = (yJ0_coder_7d493, cJ0_coder_7d493, 1, (some .byte)) := rfl
theorem zmi_209 : zmi 209 = (yJ0_length_8abf5, cJ0_length_8abf5, 1, (some .int)) := rfl
theorem zmi_210 : zmi 210 = (yJ0_indexOf_7cf53, cJ0_indexOf_7cf53, 3, (some .int)) := rfl
theorem zmi_211 : zmi 211 = (yJ0_indexOf_0f7a4, cJ0_indexOf_0f7a4, 2, (some .int)) := rfl
theorem zmi_212 : zmi 212 = (yJ1_canEncode_9a6ad, cJ1_canEncode_9a6ad, 1, (some .boolean)) := rfl
theorem zmi_213 : zmi 213 = (yJ1_indexOfChar_4cfef, cJ1_indexOfChar_4cfef, 6, (some .int)) := rfl
theorem zmi_214 : zmi 214 = (yJ1_indexOf_4cfef, cJ1_indexOf_4cfef, 4, (some .int)) := rfl
/-- the law's own body -/
theorem zmi_215 : zmi 215 = (yL_law, code, 4, some .boolean) := rfl
theorem zmi_out : ∀ k, 215 ≤ k → zmi k = (yL_law, code, 4, some .boolean) := by
  intro k hk
  unfold zmi
  rw [List.getD_eq_getElem?_getD, List.getElem?_eq_none (by show 215 ≤ k; exact hk)]; rfl
def zgt : List Cond := lw_tbl.filter goodWord
theorem zmem {w : Cond} (h : w ∈ tables_1) (g : goodWord w = true) : w ∈ zgt := List.mem_filter.mpr ⟨List.mem_append_right _ h, g⟩
theorem zmemS {w : Cond} (h : w ∈ k2_sels lw_privs) (g : goodWord w = true) : w ∈ zgt := List.mem_filter.mpr ⟨List.mem_append_left _ h, g⟩
theorem zgt_good : GoodIn zgt zgt := fun w h => ⟨h, good_of_word (List.mem_filter.mp h).2⟩
abbrev zwk (k : Nat) : List Cond := .code (zy k) (zcode k) (znl k) (zret k) :: zgt
theorem zcw_0 : Cond.code yX6_within cX6_within 3 (some .boolean) ∈ zgt := zmem (List.mem_append_right _ (List.mem_append_left _ (List.mem_of_getElem? (i := 13) rfl))) rfl
theorem zcw_1 : Cond.code yX6_distance cX6_distance 4 (some .int) ∈ zgt := zmem (List.mem_append_right _ (List.mem_append_left _ (List.mem_of_getElem? (i := 35) rfl))) rfl
theorem zcw_2 : Cond.code yX6_sign cX6_sign 1 (some .int) ∈ zgt := zmem (List.mem_append_right _ (List.mem_append_left _ (List.mem_of_getElem? (i := 90) rfl))) rfl
theorem zcw_3 : Cond.code yX6_worthIn cX6_worthIn 2 (some .int) ∈ zgt := zmem (List.mem_append_right _ (List.mem_append_left _ (List.mem_of_getElem? (i := 98) rfl))) rfl
theorem zcw_4 : Cond.code yX6_held cX6_held 3 (some .int) ∈ zgt := zmem (List.mem_append_right _ (List.mem_append_left _ (List.mem_of_getElem? (i := 104) rfl))) rfl
theorem zcw_5 : Cond.code yX6_isCell cX6_isCell 1 (some .boolean) ∈ zgt := zmem (List.mem_append_right _ (List.mem_append_left _ (List.mem_of_getElem? (i := 10) rfl))) rfl
theorem zcw_6 : Cond.code yX6_error cX6_error 2 (some .int) ∈ zgt := zmem (List.mem_append_right _ (List.mem_append_left _ (List.mem_of_getElem? (i := 17) rfl))) rfl
theorem zcw_7 : Cond.code yX6_ground cX6_ground 4 (some .int) ∈ zgt := zmem (List.mem_append_right _ (List.mem_append_left _ (List.mem_of_getElem? (i := 7) rfl))) rfl
theorem zcw_8 : Cond.code yX6_stand cX6_stand 3 (some .int) ∈ zgt := zmem (List.mem_append_right _ (List.mem_append_left _ (List.mem_of_getElem? (i := 22) rfl))) rfl
theorem zcw_9 : Cond.code yX6_rule cX6_rule 4 (some .int) ∈ zgt := zmem (List.mem_append_right _ (List.mem_append_left _ (List.mem_of_getElem? (i := 26) rfl))) rfl
theorem zcw_10 : Cond.code yX6_far cX6_far 3 (some .int) ∈ zgt := zmem (List.mem_append_right _ (List.mem_append_left _ (List.mem_of_getElem? (i := 32) rfl))) rfl
theorem zcw_11 : Cond.code yX6_place cX6_place 4 (some .int) ∈ zgt := zmem (List.mem_append_right _ (List.mem_append_left _ (List.mem_of_getElem? (i := 42) rfl))) rfl
theorem zcw_12 : Cond.code yX6_isPlace cX6_isPlace 2 (some .boolean) ∈ zgt := zmem (List.mem_append_right _ (List.mem_append_left _ (List.mem_of_getElem? (i := 54) rfl))) rfl
theorem zcw_13 : Cond.code yX6_placeIs cX6_placeIs 3 (some .int) ∈ zgt := zmem (List.mem_append_right _ (List.mem_append_left _ (List.mem_of_getElem? (i := 50) rfl))) rfl
theorem zcw_14 : Cond.code yX6_isUnder cX6_isUnder 4 (some .boolean) ∈ zgt := zmem (List.mem_append_right _ (List.mem_append_left _ (List.mem_of_getElem? (i := 118) rfl))) rfl
theorem zcw_15 : Cond.code yX6_as cX6_as 4 (some .int) ∈ zgt := zmem (List.mem_append_right _ (List.mem_append_left _ (List.mem_of_getElem? (i := 115) rfl))) rfl
theorem zcw_16 : Cond.code yX6_set cX6_set 6 (some .int) ∈ zgt := zmem (List.mem_append_right _ (List.mem_append_left _ (List.mem_of_getElem? (i := 124) rfl))) rfl
theorem zcw_17 : Cond.code yX6_worth cX6_worth 3 (some .int) ∈ zgt := zmem (List.mem_append_right _ (List.mem_append_left _ (List.mem_of_getElem? (i := 130) rfl))) rfl
theorem zcw_18 : Cond.code yX6_feed cX6_feed 4 (some .int) ∈ zgt := zmem (List.mem_append_right _ (List.mem_append_left _ (List.mem_of_getElem? (i := 135) rfl))) rfl
theorem zcw_19 : Cond.code yX6_text cX6_text 3 (some .int) ∈ zgt := zmem (List.mem_append_right _ (List.mem_append_left _ (List.mem_of_getElem? (i := 143) rfl))) rfl
theorem zcw_20 : Cond.code yX6_untell cX6_untell 2 (some .int) ∈ zgt := zmem (List.mem_append_right _ (List.mem_append_right _ (List.mem_append_left _ (List.mem_of_getElem? (i := 40) rfl)))) rfl
theorem zcw_21 : Cond.code yX6_weeks cX6_weeks 2 (some .int) ∈ zgt := zmem (List.mem_append_right _ (List.mem_append_right _ (List.mem_append_left _ (List.mem_of_getElem? (i := 48) rfl)))) rfl
theorem zcw_22 : Cond.code yX6_coins cX6_coins 3 (some .int) ∈ zgt := zmem (List.mem_append_right _ (List.mem_append_right _ (List.mem_append_left _ (List.mem_of_getElem? (i := 92) rfl)))) rfl
theorem zcw_23 : Cond.code yX6_seed cX6_seed 3 (some .int) ∈ zgt := zmem (List.mem_append_right _ (List.mem_append_right _ (List.mem_append_left _ (List.mem_of_getElem? (i := 101) rfl)))) rfl
theorem zcw_24 : Cond.code yX6_moves cX6_moves 3 (some .int) ∈ zgt := zmem (List.mem_append_right _ (List.mem_append_right _ (List.mem_append_left _ (List.mem_of_getElem? (i := 105) rfl)))) rfl
theorem zcw_25 : Cond.code yX6_then cX6_then 2 (some .int) ∈ zgt := zmem (List.mem_append_right _ (List.mem_append_right _ (List.mem_append_left _ (List.mem_of_getElem? (i := 113) rfl)))) rfl
theorem zcw_26 : Cond.code yX6_thenPlace cX6_thenPlace 4 (some .int) ∈ zgt := zmem (List.mem_append_right _ (List.mem_append_right _ (List.mem_append_left _ (List.mem_of_getElem? (i := 127) rfl)))) rfl
theorem zcw_27 : Cond.code yX6_whose cX6_whose 2 (some .int) ∈ zgt := zmem (List.mem_append_right _ (List.mem_append_right _ (List.mem_append_left _ (List.mem_of_getElem? (i := 131) rfl)))) rfl
theorem zcw_28 : Cond.code yX6_comes cX6_comes 4 (some .int) ∈ zgt := zmem (List.mem_append_right _ (List.mem_append_right _ (List.mem_append_left _ (List.mem_of_getElem? (i := 137) rfl)))) rfl
theorem zcw_29 : Cond.code yX6_least cX6_least 6 (some .int) ∈ zgt := zmem (List.mem_append_right _ (List.mem_append_right _ (List.mem_append_left _ (List.mem_of_getElem? (i := 141) rfl)))) rfl
theorem zcw_30 : Cond.code yX6_hush cX6_hush 7 (some .int) ∈ zgt := zmem (List.mem_append_right _ (List.mem_append_right _ (List.mem_append_left _ (List.mem_of_getElem? (i := 146) rfl)))) rfl
theorem zcw_31 : Cond.code yX6_best cX6_best 6 (some .int) ∈ zgt := zmem (List.mem_append_right _ (List.mem_append_right _ (List.mem_append_left _ (List.mem_of_getElem? (i := 150) rfl)))) rfl
theorem zcw_32 : Cond.code yX6_beside cX6_beside 7 (some .int) ∈ zgt := zmem (List.mem_append_right _ (List.mem_append_right _ (List.mem_append_left _ (List.mem_of_getElem? (i := 158) rfl)))) rfl
theorem zcw_33 : Cond.code yX6_round cX6_round 4 (some .int) ∈ zgt := zmem (List.mem_append_right _ (List.mem_append_right _ (List.mem_append_left _ (List.mem_of_getElem? (i := 162) rfl)))) rfl
theorem zcw_34 : Cond.code yX6_share cX6_share 3 (some .int) ∈ zgt := zmem (List.mem_append_right _ (List.mem_append_right _ (List.mem_append_left _ (List.mem_of_getElem? (i := 178) rfl)))) rfl
theorem zcw_35 : Cond.code yX6_voice cX6_voice 6 (some .int) ∈ zgt := zmem (List.mem_append_right _ (List.mem_append_right _ (List.mem_append_left _ (List.mem_of_getElem? (i := 190) rfl)))) rfl
theorem zcw_36 : Cond.code yX6_body cX6_body 2 (some .int) ∈ zgt := zmem (List.mem_append_right _ (List.mem_append_right _ (List.mem_append_left _ (List.mem_of_getElem? (i := 226) rfl)))) rfl
theorem zcw_37 : Cond.code yX6_isSheet cX6_isSheet 1 (some .boolean) ∈ zgt := zmem (List.mem_append_right _ (List.mem_append_right _ (List.mem_append_left _ (List.mem_of_getElem? (i := 233) rfl)))) rfl
theorem zcw_38 : Cond.code yX6_sheet cX6_sheet 4 (some .int) ∈ zgt := zmem (List.mem_append_right _ (List.mem_append_right _ (List.mem_append_left _ (List.mem_of_getElem? (i := 230) rfl)))) rfl
theorem zcw_39 : Cond.code yX6_put cX6_put 5 (some .int) ∈ zgt := zmem (List.mem_append_right _ (List.mem_append_right _ (List.mem_append_right _ (List.mem_append_left _ (List.mem_of_getElem? (i := 1) rfl))))) rfl
theorem zcw_40 : Cond.code yX6_move cX6_move 8 (some .int) ∈ zgt := zmem (List.mem_append_right _ (List.mem_append_right _ (List.mem_append_right _ (List.mem_append_left _ (List.mem_of_getElem? (i := 13) rfl))))) rfl
theorem zcw_41 : Cond.code yX6_voices cX6_voices 4 (some .int) ∈ zgt := zmem (List.mem_append_right _ (List.mem_append_right _ (List.mem_append_right _ (List.mem_append_left _ (List.mem_of_getElem? (i := 22) rfl))))) rfl
theorem zcw_42 : Cond.code yX6_judge cX6_judge 4 (some .int) ∈ zgt := zmem (List.mem_append_right _ (List.mem_append_right _ (List.mem_append_right _ (List.mem_append_left _ (List.mem_of_getElem? (i := 26) rfl))))) rfl
theorem zcw_43 : Cond.code yX6_image cX6_image 1 (some .int) ∈ zgt := zmem (List.mem_append_right _ (List.mem_append_right _ (List.mem_append_right _ (List.mem_append_left _ (List.mem_of_getElem? (i := 30) rfl))))) rfl
theorem zcw_44 : Cond.code yX6_restore cX6_restore 1 (some .int) ∈ zgt := zmem (List.mem_append_right _ (List.mem_append_right _ (List.mem_append_right _ (List.mem_append_left _ (List.mem_of_getElem? (i := 34) rfl))))) rfl
theorem zcw_45 : Cond.code yX6_tell cX6_tell 2 (some .int) ∈ zgt := zmem (List.mem_append_right _ (List.mem_append_right _ (List.mem_append_right _ (List.mem_append_left _ (List.mem_of_getElem? (i := 38) rfl))))) rfl
theorem zcw_46 : Cond.code yX6_check cX6_check 4 (some .int) ∈ zgt := zmem (List.mem_append_right _ (List.mem_append_right _ (List.mem_append_right _ (List.mem_append_left _ (List.mem_of_getElem? (i := 42) rfl))))) rfl
theorem zcw_47 : Cond.code yX6_count cX6_count 2 (some .int) ∈ zgt := zmem (List.mem_append_right _ (List.mem_append_right _ (List.mem_append_right _ (List.mem_append_left _ (List.mem_of_getElem? (i := 47) rfl))))) rfl
theorem zcw_48 : Cond.code yX6_told cX6_told 2 (some .int) ∈ zgt := zmem (List.mem_append_right _ (List.mem_append_right _ (List.mem_append_right _ (List.mem_append_left _ (List.mem_of_getElem? (i := 59) rfl))))) rfl
theorem zcw_49 : Cond.code yX5_restart cX5_restart 3 none ∈ zgt := zmem (List.mem_append_right _ (List.mem_append_right _ (List.mem_append_left _ (List.mem_of_getElem? (i := 123) rfl)))) rfl
theorem zcw_50 : Cond.code yX5_become cX5_become 2 none ∈ zgt := zmem (List.mem_append_right _ (List.mem_append_right _ (List.mem_append_left _ (List.mem_of_getElem? (i := 117) rfl)))) rfl
theorem zcw_51 : Cond.code yX5_settle cX5_settle 6 none ∈ zgt := zmem (List.mem_append_right _ (List.mem_append_left _ (List.mem_of_getElem? (i := 46) rfl))) rfl
theorem zcw_52 : Cond.code yX5_leaguesNear cX5_leaguesNear 5 (some .int) ∈ zgt := zmem (List.mem_append_right _ (List.mem_append_left _ (List.mem_of_getElem? (i := 67) rfl))) rfl
theorem zcw_53 : Cond.code yX5_called cX5_called 3 (some .int) ∈ zgt := zmem (List.mem_append_right _ (List.mem_append_left _ (List.mem_of_getElem? (i := 71) rfl))) rfl
theorem zcw_54 : Cond.code yX5_isRiver cX5_isRiver 2 (some .boolean) ∈ zgt := zmem (List.mem_append_right _ (List.mem_append_left _ (List.mem_of_getElem? (i := 95) rfl))) rfl
theorem zcw_55 : Cond.code yX5_nextCell cX5_nextCell 11 (some .int) ∈ zgt := zmem (List.mem_append_right _ (List.mem_append_left _ (List.mem_of_getElem? (i := 87) rfl))) rfl
theorem zcw_56 : Cond.code yX5_gainOf cX5_gainOf 3 (some .int) ∈ zgt := zmem (List.mem_append_right _ (List.mem_append_left _ (List.mem_of_getElem? (i := 83) rfl))) rfl
theorem zcw_57 : Cond.code yX5_costOf cX5_costOf 3 (some .int) ∈ zgt := zmem (List.mem_append_right _ (List.mem_append_left _ (List.mem_of_getElem? (i := 111) rfl))) rfl
theorem zcw_58 : Cond.code yX5_shoutOf cX5_shoutOf 7 (some .int) ∈ zgt := zmem (List.mem_append_right _ (List.mem_append_left _ (List.mem_of_getElem? (i := 62) rfl))) rfl
theorem zcw_59 : Cond.code yX5_detail cX5_detail 3 (some .int) ∈ zgt := zmem (List.mem_append_right _ (List.mem_append_left _ (List.mem_of_getElem? (i := 58) rfl))) rfl
theorem zcw_60 : Cond.code yX5_textOf cX5_textOf 2 (some (.object "LoudMarket$Text")) ∈ zgt := zmem (List.mem_append_right _ (List.mem_append_right _ (List.mem_append_left _ (List.mem_of_getElem? (i := 29) rfl)))) rfl
theorem zcw_61 : Cond.code yX5_tapeOn cX5_tapeOn 5 none ∈ zgt := zmem (List.mem_append_right _ (List.mem_append_left _ (List.mem_of_getElem? (i := 139) rfl))) rfl
theorem zcw_62 : Cond.code yX5_takeShouts cX5_takeShouts 2 none ∈ zgt := zmem (List.mem_append_right _ (List.mem_append_right _ (List.mem_append_left _ (List.mem_of_getElem? (i := 56) rfl)))) rfl
theorem zcw_63 : Cond.code yX5_loudest cX5_loudest 4 (some .int) ∈ zgt := zmem (List.mem_append_right _ (List.mem_append_right _ (List.mem_append_left _ (List.mem_of_getElem? (i := 72) rfl)))) rfl
theorem zcw_64 : Cond.code yX5_mayGo cX5_mayGo 1 (some .boolean) ∈ zgt := zmem (List.mem_append_right _ (List.mem_append_right _ (List.mem_append_left _ (List.mem_of_getElem? (i := 64) rfl)))) rfl
theorem zcw_65 : Cond.code yX5_goByPulls cX5_goByPulls 5 none ∈ zgt := zmem (List.mem_append_right _ (List.mem_append_right _ (List.mem_append_left _ (List.mem_of_getElem? (i := 68) rfl)))) rfl
theorem zcw_66 : Cond.code yX5_goFor cX5_goFor 2 none ∈ zgt := zmem (List.mem_append_right _ (List.mem_append_right _ (List.mem_append_left _ (List.mem_of_getElem? (i := 76) rfl)))) rfl
theorem zcw_67 : Cond.code yX5_goByLaw cX5_goByLaw 1 none ∈ zgt := zmem (List.mem_append_right _ (List.mem_append_right _ (List.mem_append_left _ (List.mem_of_getElem? (i := 60) rfl)))) rfl
theorem zcw_68 : Cond.code yX5_payShouts cX5_payShouts 4 none ∈ zgt := zmem (List.mem_append_right _ (List.mem_append_right _ (List.mem_append_left _ (List.mem_of_getElem? (i := 80) rfl)))) rfl
theorem zcw_69 : Cond.code yX5_endWeek cX5_endWeek 4 none ∈ zgt := zmem (List.mem_append_right _ (List.mem_append_right _ (List.mem_append_left _ (List.mem_of_getElem? (i := 87) rfl)))) rfl
theorem zcw_70 : Cond.code yX5_pass cX5_pass 3 none ∈ zgt := zmem (List.mem_append_right _ (List.mem_append_right _ (List.mem_append_left _ (List.mem_of_getElem? (i := 52) rfl)))) rfl
theorem zcw_71 : Cond.code yX5_coinWeek cX5_coinWeek 2 none ∈ zgt := zmem (List.mem_append_right _ (List.mem_append_right _ (List.mem_append_left _ (List.mem_of_getElem? (i := 96) rfl)))) rfl
theorem zcw_72 : Cond.code yX5_moveHouse cX5_moveHouse 2 (some .boolean) ∈ zgt := zmem (List.mem_append_right _ (List.mem_append_right _ (List.mem_append_left _ (List.mem_of_getElem? (i := 109) rfl)))) rfl
theorem zcw_73 : Cond.code yX5_worthsIn cX5_worthsIn 4 (some .int) ∈ zgt := zmem (List.mem_append_right _ (List.mem_append_right _ (List.mem_append_left _ (List.mem_of_getElem? (i := 154) rfl)))) rfl
theorem zcw_74 : Cond.code yX5_richest cX5_richest 3 (some .int) ∈ zgt := zmem (List.mem_append_right _ (List.mem_append_right _ (List.mem_append_left _ (List.mem_of_getElem? (i := 182) rfl)))) rfl
theorem zcw_75 : Cond.code yX5_leastPurse cX5_leastPurse 3 (some .int) ∈ zgt := zmem (List.mem_append_right _ (List.mem_append_right _ (List.mem_append_left _ (List.mem_of_getElem? (i := 186) rfl)))) rfl
theorem zcw_76 : Cond.code yX5_purses cX5_purses 3 (some .int) ∈ zgt := zmem (List.mem_append_right _ (List.mem_append_right _ (List.mem_append_right _ (List.mem_append_left _ (List.mem_of_getElem? (i := 55) rfl))))) rfl
theorem zcw_77 : Cond.code yX5_rivers cX5_rivers 3 (some .int) ∈ zgt := zmem (List.mem_append_right _ (List.mem_append_right _ (List.mem_append_right _ (List.mem_append_left _ (List.mem_of_getElem? (i := 51) rfl))))) rfl
theorem zcw_78 : Cond.code yX4_start cX4_start 1 none ∈ zgt := zmem (List.mem_append_right _ (List.mem_append_left _ (List.mem_of_getElem? (i := 154) rfl))) rfl
theorem zcw_79 : Cond.code yX4_add cX4_add 3 none ∈ zgt := zmem (List.mem_append_right _ (List.mem_append_left _ (List.mem_of_getElem? (i := 175) rfl))) rfl
theorem zcw_80 : Cond.code yX4_become cX4_become 2 none ∈ zgt := zmem (List.mem_append_right _ (List.mem_append_right _ (List.mem_append_left _ (List.mem_of_getElem? (i := 33) rfl)))) rfl
theorem zcw_81 : Cond.code yX4_unmake cX4_unmake 2 (some .boolean) ∈ zgt := zmem (List.mem_append_right _ (List.mem_append_right _ (List.mem_append_left _ (List.mem_of_getElem? (i := 44) rfl)))) rfl
theorem zcw_82 : Cond.code yX4_joined cX4_joined 3 (some .int) ∈ zgt := zmem (List.mem_append_right _ (List.mem_append_left _ (List.mem_of_getElem? (i := 79) rfl))) rfl
theorem zcw_83 : Cond.code yX4_value cX4_value 6 (some .int) ∈ zgt := zmem (List.mem_append_right _ (List.mem_append_left _ (List.mem_of_getElem? (i := 75) rfl))) rfl
theorem zcw_84 : Cond.code yX0_signsOf cX0_signsOf 1 (some (.object "java/lang/String")) ∈ zgt := zmem (List.mem_append_right _ (List.mem_append_right _ (List.mem_append_left _ (List.mem_of_getElem? (i := 20) rfl)))) rfl
theorem zcw_85 : Cond.code yX0_next cX0_next 1 (some .int) ∈ zgt := zmem (List.mem_append_right _ (List.mem_append_left _ (List.mem_of_getElem? (i := 166) rfl))) rfl
theorem zcw_86 : Cond.code yX0_nextIs cX0_nextIs 3 (some .boolean) ∈ zgt := zmem (List.mem_append_right _ (List.mem_append_left _ (List.mem_of_getElem? (i := 179) rfl))) rfl
theorem zcw_87 : Cond.code yX0_readNumber cX0_readNumber 3 none ∈ zgt := zmem (List.mem_append_right _ (List.mem_append_left _ (List.mem_of_getElem? (i := 171) rfl))) rfl
theorem zcw_88 : Cond.code yX0_fail cX0_fail 1 none ∈ zgt := zmem (List.mem_append_right _ (List.mem_append_right _ (List.mem_append_left _ (List.mem_of_getElem? (i := 17) rfl)))) rfl
theorem zcw_89 : Cond.code yX0_readJoined cX0_readJoined 6 none ∈ zgt := zmem (List.mem_append_right _ (List.mem_append_left _ (List.mem_of_getElem? (i := 158) rfl))) rfl
theorem zcw_90 : Cond.code yX0_readQ cX0_readQ 3 none ∈ zgt := zmem (List.mem_append_right _ (List.mem_append_left _ (List.mem_of_getElem? (i := 162) rfl))) rfl
theorem zcw_91 : Cond.code yX0_read cX0_read 4 (some .int) ∈ zgt := zmem (List.mem_append_right _ (List.mem_append_left _ (List.mem_of_getElem? (i := 149) rfl))) rfl
theorem zcw_92 : Cond.code yX3_begin cX3_begin 2 none ∈ zgt := zmem (List.mem_append_right _ (List.mem_append_right _ (List.mem_append_left _ (List.mem_of_getElem? (i := 213) rfl)))) rfl
theorem zcw_93 : Cond.code yX3_parts cX3_parts 3 (some .int) ∈ zgt := zmem (List.mem_append_right _ (List.mem_append_right _ (List.mem_append_left _ (List.mem_of_getElem? (i := 217) rfl)))) rfl
theorem zcw_94 : Cond.code yX3_above cX3_above 5 (some .int) ∈ zgt := zmem (List.mem_append_right _ (List.mem_append_right _ (List.mem_append_left _ (List.mem_of_getElem? (i := 221) rfl)))) rfl
theorem zcw_95 : Cond.code yX3_from cX3_from 8 (some .int) ∈ zgt := zmem (List.mem_append_right _ (List.mem_append_right _ (List.mem_append_left _ (List.mem_of_getElem? (i := 202) rfl)))) rfl
theorem zcw_96 : Cond.code yX3_own cX3_own 4 (some .int) ∈ zgt := zmem (List.mem_append_right _ (List.mem_append_right _ (List.mem_append_left _ (List.mem_of_getElem? (i := 198) rfl)))) rfl
theorem zcw_97 : Cond.code yX3_work cX3_work 4 (some .int) ∈ zgt := zmem (List.mem_append_right _ (List.mem_append_right _ (List.mem_append_left _ (List.mem_of_getElem? (i := 209) rfl)))) rfl
theorem zcw_98 : Cond.code yX3_speak cX3_speak 6 (some .int) ∈ zgt := zmem (List.mem_append_right _ (List.mem_append_right _ (List.mem_append_left _ (List.mem_of_getElem? (i := 194) rfl)))) rfl
theorem zcw_99 : Cond.code yX1_see cX1_see 5 none ∈ zgt := zmem (List.mem_append_right _ (List.mem_append_right _ (List.mem_append_left _ (List.mem_of_getElem? (i := 166) rfl)))) rfl
theorem zcw_100 : Cond.code yX1_isAlike cX1_isAlike 3 (some .boolean) ∈ zgt := zmem (List.mem_append_right _ (List.mem_append_right _ (List.mem_append_left _ (List.mem_of_getElem? (i := 174) rfl)))) rfl
theorem zcw_101 : Cond.code yX1_alike cX1_alike 3 (some .int) ∈ zgt := zmem (List.mem_append_right _ (List.mem_append_right _ (List.mem_append_left _ (List.mem_of_getElem? (i := 171) rfl)))) rfl
theorem zcw_102 : Cond.code yX2_isMissing cX2_isMissing 1 (some .boolean) ∈ zgt := zmem (List.mem_append_right _ (List.mem_append_right _ (List.mem_append_right _ (List.mem_append_left _ (List.mem_of_getElem? (i := 5) rfl))))) rfl
theorem zcw_103 : Cond.code yX2_lay cX2_lay 4 none ∈ zgt := zmem (List.mem_append_right _ (List.mem_append_right _ (List.mem_append_left _ (List.mem_of_getElem? (i := 237) rfl)))) rfl
theorem zcw_104 : Cond.code yX2_write cX2_write 3 none ∈ zgt := zmem (List.mem_append_right _ (List.mem_append_right _ (List.mem_append_right _ (List.mem_append_left _ (List.mem_of_getElem? (i := 9) rfl))))) rfl
theorem zcw_105 : Cond.code yX2_hasRun cX2_hasRun 3 (some .boolean) ∈ zgt := zmem (List.mem_append_right _ (List.mem_append_right _ (List.mem_append_right _ (List.mem_append_left _ (List.mem_of_getElem? (i := 17) rfl))))) rfl
theorem zcw_106 : Cond.code yX7_error cX7_error 2 (some .int) ∈ zgt := zmem (List.mem_append_right _ (List.mem_append_right _ (List.mem_append_right _ (List.mem_append_left _ (List.mem_of_getElem? (i := 146) rfl))))) rfl
theorem zcw_107 : Cond.code yX7_in cX7_in 3 (some .boolean) ∈ zgt := zmem (List.mem_append_right _ (List.mem_append_right _ (List.mem_append_right _ (List.mem_append_left _ (List.mem_of_getElem? (i := 142) rfl))))) rfl
theorem zcw_108 : Cond.code yX7_held cX7_held 3 (some .int) ∈ zgt := zmem (List.mem_append_right _ (List.mem_append_right _ (List.mem_append_right _ (List.mem_append_left _ (List.mem_of_getElem? (i := 230) rfl))))) rfl
theorem zcw_109 : Cond.code yX7_carry cX7_carry 3 none ∈ zgt := zmem (List.mem_append_right _ (List.mem_append_right _ (List.mem_append_right _ (List.mem_append_right _ (List.mem_append_left _ (List.mem_of_getElem? (i := 131) rfl)))))) rfl
theorem zcw_110 : Cond.code yX7_isCell cX7_isCell 1 (some .boolean) ∈ zgt := zmem (List.mem_append_right _ (List.mem_append_right _ (List.mem_append_right _ (List.mem_append_left _ (List.mem_of_getElem? (i := 139) rfl))))) rfl
theorem zcw_111 : Cond.code yX7_isPlace cX7_isPlace 2 (some .boolean) ∈ zgt := zmem (List.mem_append_right _ (List.mem_append_right _ (List.mem_append_right _ (List.mem_append_left _ (List.mem_of_getElem? (i := 181) rfl))))) rfl
theorem zcw_112 : Cond.code yX7_its cX7_its 3 (some .int) ∈ zgt := zmem (List.mem_append_right _ (List.mem_append_right _ (List.mem_append_right _ (List.mem_append_left _ (List.mem_of_getElem? (i := 193) rfl))))) rfl
theorem zcw_113 : Cond.code yX7_size cX7_size 1 (some .int) ∈ zgt := zmem (List.mem_append_right _ (List.mem_append_right _ (List.mem_append_right _ (List.mem_append_left _ (List.mem_of_getElem? (i := 169) rfl))))) rfl
theorem zcw_114 : Cond.code yX7_farOf cX7_farOf 2 (some .int) ∈ zgt := zmem (List.mem_append_right _ (List.mem_append_right _ (List.mem_append_right _ (List.mem_append_left _ (List.mem_of_getElem? (i := 166) rfl))))) rfl
theorem zcw_115 : Cond.code yX7_isRiver cX7_isRiver 2 (some .boolean) ∈ zgt := zmem (List.mem_append_right _ (List.mem_append_right _ (List.mem_append_right _ (List.mem_append_left _ (List.mem_of_getElem? (i := 155) rfl))))) rfl
theorem zcw_116 : Cond.code yX7_ground cX7_ground 4 (some .int) ∈ zgt := zmem (List.mem_append_right _ (List.mem_append_right _ (List.mem_append_right _ (List.mem_append_left _ (List.mem_of_getElem? (i := 136) rfl))))) rfl
theorem zcw_117 : Cond.code yX7_stand cX7_stand 3 (some .int) ∈ zgt := zmem (List.mem_append_right _ (List.mem_append_right _ (List.mem_append_right _ (List.mem_append_left _ (List.mem_of_getElem? (i := 151) rfl))))) rfl
theorem zcw_118 : Cond.code yX7_rule cX7_rule 4 (some .int) ∈ zgt := zmem (List.mem_append_right _ (List.mem_append_right _ (List.mem_append_right _ (List.mem_append_left _ (List.mem_of_getElem? (i := 159) rfl))))) rfl
theorem zcw_119 : Cond.code yX7_far cX7_far 3 (some .int) ∈ zgt := zmem (List.mem_append_right _ (List.mem_append_right _ (List.mem_append_right _ (List.mem_append_left _ (List.mem_of_getElem? (i := 163) rfl))))) rfl
theorem zcw_120 : Cond.code yX7_place cX7_place 5 (some .int) ∈ zgt := zmem (List.mem_append_right _ (List.mem_append_right _ (List.mem_append_right _ (List.mem_append_left _ (List.mem_of_getElem? (i := 173) rfl))))) rfl
theorem zcw_121 : Cond.code yX7_hasText cX7_hasText 2 (some .boolean) ∈ zgt := zmem (List.mem_append_right _ (List.mem_append_right _ (List.mem_append_right _ (List.mem_append_left _ (List.mem_of_getElem? (i := 205) rfl))))) rfl
theorem zcw_122 : Cond.code yX7_joined cX7_joined 3 (some .int) ∈ zgt := zmem (List.mem_append_right _ (List.mem_append_right _ (List.mem_append_right _ (List.mem_append_left _ (List.mem_of_getElem? (i := 212) rfl))))) rfl
theorem zcw_123 : Cond.code yX7_worked cX7_worked 7 (some .int) ∈ zgt := zmem (List.mem_append_right _ (List.mem_append_right _ (List.mem_append_right _ (List.mem_append_left _ (List.mem_of_getElem? (i := 209) rfl))))) rfl
theorem zcw_124 : Cond.code yX7_called cX7_called 2 (some .int) ∈ zgt := zmem (List.mem_append_right _ (List.mem_append_right _ (List.mem_append_right _ (List.mem_append_left _ (List.mem_of_getElem? (i := 201) rfl))))) rfl
theorem zcw_125 : Cond.code yX7_stepOf cX7_stepOf 4 (some .int) ∈ zgt := zmem (List.mem_append_right _ (List.mem_append_right _ (List.mem_append_right _ (List.mem_append_left _ (List.mem_of_getElem? (i := 219) rfl))))) rfl
theorem zcw_126 : Cond.code yX7_mayStep cX7_mayStep 4 (some .boolean) ∈ zgt := zmem (List.mem_append_right _ (List.mem_append_right _ (List.mem_append_right _ (List.mem_append_left _ (List.mem_of_getElem? (i := 223) rfl))))) rfl
theorem zcw_127 : Cond.code yX7_goesFor cX7_goesFor 7 (some .int) ∈ zgt := zmem (List.mem_append_right _ (List.mem_append_right _ (List.mem_append_right _ (List.mem_append_left _ (List.mem_of_getElem? (i := 216) rfl))))) rfl
theorem zcw_128 : Cond.code yX7_worthOf cX7_worthOf 4 (some .int) ∈ zgt := zmem (List.mem_append_right _ (List.mem_append_right _ (List.mem_append_right _ (List.mem_append_left _ (List.mem_of_getElem? (i := 227) rfl))))) rfl
theorem zcw_129 : Cond.code yX7_costOf cX7_costOf 3 (some .int) ∈ zgt := zmem (List.mem_append_right _ (List.mem_append_right _ (List.mem_append_right _ (List.mem_append_left _ (List.mem_of_getElem? (i := 234) rfl))))) rfl
theorem zcw_130 : Cond.code yX7_plainShout cX7_plainShout 7 (some .int) ∈ zgt := zmem (List.mem_append_right _ (List.mem_append_right _ (List.mem_append_right _ (List.mem_append_left _ (List.mem_of_getElem? (i := 197) rfl))))) rfl
theorem zcw_131 : Cond.code yX7_shout cX7_shout 2 (some .int) ∈ zgt := zmem (List.mem_append_right _ (List.mem_append_right _ (List.mem_append_right _ (List.mem_append_left _ (List.mem_of_getElem? (i := 189) rfl))))) rfl
theorem zcw_132 : Cond.code yX7_toldOf cX7_toldOf 3 (some .int) ∈ zgt := zmem (List.mem_append_right _ (List.mem_append_right _ (List.mem_append_right _ (List.mem_append_left _ (List.mem_of_getElem? (i := 185) rfl))))) rfl
theorem zcw_133 : Cond.code yX7_placeIs cX7_placeIs 3 (some .int) ∈ zgt := zmem (List.mem_append_right _ (List.mem_append_right _ (List.mem_append_right _ (List.mem_append_left _ (List.mem_of_getElem? (i := 177) rfl))))) rfl
theorem zcw_134 : Cond.code yX7_isUnder cX7_isUnder 2 (some .boolean) ∈ zgt := zmem (List.mem_append_right _ (List.mem_append_right _ (List.mem_append_right _ (List.mem_append_right _ (List.mem_append_left _ (List.mem_of_getElem? (i := 1) rfl)))))) rfl
theorem zcw_135 : Cond.code yX7_as cX7_as 3 (some .int) ∈ zgt := zmem (List.mem_append_right _ (List.mem_append_right _ (List.mem_append_right _ (List.mem_append_left _ (List.mem_of_getElem? (i := 238) rfl))))) rfl
theorem zcw_136 : Cond.code yX7_set cX7_set 7 (some .int) ∈ zgt := zmem (List.mem_append_right _ (List.mem_append_right _ (List.mem_append_right _ (List.mem_append_right _ (List.mem_append_left _ (List.mem_of_getElem? (i := 5) rfl)))))) rfl
theorem zcw_137 : Cond.code yX7_worth cX7_worth 3 (some .int) ∈ zgt := zmem (List.mem_append_right _ (List.mem_append_right _ (List.mem_append_right _ (List.mem_append_right _ (List.mem_append_left _ (List.mem_of_getElem? (i := 9) rfl)))))) rfl
theorem zcw_138 : Cond.code yX7_feed cX7_feed 5 (some .int) ∈ zgt := zmem (List.mem_append_right _ (List.mem_append_right _ (List.mem_append_right _ (List.mem_append_right _ (List.mem_append_left _ (List.mem_of_getElem? (i := 13) rfl)))))) rfl
theorem zcw_139 : Cond.code yX7_look cX7_look 1 (some .int) ∈ zgt := zmem (List.mem_append_right _ (List.mem_append_right _ (List.mem_append_right _ (List.mem_append_right _ (List.mem_append_left _ (List.mem_of_getElem? (i := 46) rfl)))))) rfl
theorem zcw_140 : Cond.code yX7_isName cX7_isName 2 (some .boolean) ∈ zgt := zmem (List.mem_append_right _ (List.mem_append_right _ (List.mem_append_right _ (List.mem_append_right _ (List.mem_append_left _ (List.mem_of_getElem? (i := 50) rfl)))))) rfl
theorem zcw_141 : Cond.code yX7_lays cX7_lays 3 none ∈ zgt := zmem (List.mem_append_right _ (List.mem_append_right _ (List.mem_append_right _ (List.mem_append_right _ (List.mem_append_left _ (List.mem_of_getElem? (i := 54) rfl)))))) rfl
theorem zcw_142 : Cond.code yX7_opens cX7_opens 1 (some .boolean) ∈ zgt := zmem (List.mem_append_right _ (List.mem_append_right _ (List.mem_append_right _ (List.mem_append_right _ (List.mem_append_left _ (List.mem_of_getElem? (i := 58) rfl)))))) rfl
theorem zcw_143 : Cond.code yX7_both cX7_both 1 (some .boolean) ∈ zgt := zmem (List.mem_append_right _ (List.mem_append_right _ (List.mem_append_right _ (List.mem_append_right _ (List.mem_append_left _ (List.mem_of_getElem? (i := 26) rfl)))))) rfl
theorem zcw_144 : Cond.code yX7_compared cX7_compared 2 (some .boolean) ∈ zgt := zmem (List.mem_append_right _ (List.mem_append_right _ (List.mem_append_right _ (List.mem_append_right _ (List.mem_append_left _ (List.mem_of_getElem? (i := 30) rfl)))))) rfl
theorem zcw_145 : Cond.code yX7_one cX7_one 4 (some .boolean) ∈ zgt := zmem (List.mem_append_right _ (List.mem_append_right _ (List.mem_append_right _ (List.mem_append_right _ (List.mem_append_left _ (List.mem_of_getElem? (i := 42) rfl)))))) rfl
theorem zcw_146 : Cond.code yX7_product cX7_product 2 (some .boolean) ∈ zgt := zmem (List.mem_append_right _ (List.mem_append_right _ (List.mem_append_right _ (List.mem_append_right _ (List.mem_append_left _ (List.mem_of_getElem? (i := 38) rfl)))))) rfl
theorem zcw_147 : Cond.code yX7_sum cX7_sum 2 (some .boolean) ∈ zgt := zmem (List.mem_append_right _ (List.mem_append_right _ (List.mem_append_right _ (List.mem_append_right _ (List.mem_append_left _ (List.mem_of_getElem? (i := 34) rfl)))))) rfl
theorem zcw_148 : Cond.code yX7_whole cX7_whole 1 (some .boolean) ∈ zgt := zmem (List.mem_append_right _ (List.mem_append_right _ (List.mem_append_right _ (List.mem_append_right _ (List.mem_append_left _ (List.mem_of_getElem? (i := 22) rfl)))))) rfl
theorem zcw_149 : Cond.code yX7_text cX7_text 5 (some .int) ∈ zgt := zmem (List.mem_append_right _ (List.mem_append_right _ (List.mem_append_right _ (List.mem_append_right _ (List.mem_append_left _ (List.mem_of_getElem? (i := 18) rfl)))))) rfl
theorem zcw_150 : Cond.code yX7_untell cX7_untell 3 (some .int) ∈ zgt := zmem (List.mem_append_right _ (List.mem_append_right _ (List.mem_append_right _ (List.mem_append_right _ (List.mem_append_left _ (List.mem_of_getElem? (i := 62) rfl)))))) rfl
theorem zcw_151 : Cond.code yX7_findShouts cX7_findShouts 2 none ∈ zgt := zmem (List.mem_append_right _ (List.mem_append_right _ (List.mem_append_right _ (List.mem_append_right _ (List.mem_append_left _ (List.mem_of_getElem? (i := 78) rfl)))))) rfl
theorem zcw_152 : Cond.code yX7_loudest cX7_loudest 4 (some .int) ∈ zgt := zmem (List.mem_append_right _ (List.mem_append_right _ (List.mem_append_right _ (List.mem_append_right _ (List.mem_append_left _ (List.mem_of_getElem? (i := 86) rfl)))))) rfl
theorem zcw_153 : Cond.code yX7_pulled cX7_pulled 7 (some .int) ∈ zgt := zmem (List.mem_append_right _ (List.mem_append_right _ (List.mem_append_right _ (List.mem_append_right _ (List.mem_append_left _ (List.mem_of_getElem? (i := 82) rfl)))))) rfl
theorem zcw_154 : Cond.code yX7_mayGo cX7_mayGo 1 (some .boolean) ∈ zgt := zmem (List.mem_append_right _ (List.mem_append_right _ (List.mem_append_right _ (List.mem_append_right _ (List.mem_append_left _ (List.mem_of_getElem? (i := 90) rfl)))))) rfl
theorem zcw_155 : Cond.code yX7_pays cX7_pays 4 none ∈ zgt := zmem (List.mem_append_right _ (List.mem_append_right _ (List.mem_append_right _ (List.mem_append_right _ (List.mem_append_left _ (List.mem_of_getElem? (i := 94) rfl)))))) rfl
theorem zcw_156 : Cond.code yX7_ends cX7_ends 2 none ∈ zgt := zmem (List.mem_append_right _ (List.mem_append_right _ (List.mem_append_right _ (List.mem_append_right _ (List.mem_append_left _ (List.mem_of_getElem? (i := 100) rfl)))))) rfl
theorem zcw_157 : Cond.code yX7_week cX7_week 3 none ∈ zgt := zmem (List.mem_append_right _ (List.mem_append_right _ (List.mem_append_right _ (List.mem_append_right _ (List.mem_append_left _ (List.mem_of_getElem? (i := 74) rfl)))))) rfl
theorem zcw_158 : Cond.code yX7_draw cX7_draw 1 (some .int) ∈ zgt := zmem (List.mem_append_right _ (List.mem_append_right _ (List.mem_append_right _ (List.mem_append_right _ (List.mem_append_left _ (List.mem_of_getElem? (i := 112) rfl)))))) rfl
theorem zcw_159 : Cond.code yX7_coinWeek cX7_coinWeek 2 none ∈ zgt := zmem (List.mem_append_right _ (List.mem_append_right _ (List.mem_append_right _ (List.mem_append_right _ (List.mem_append_left _ (List.mem_of_getElem? (i := 108) rfl)))))) rfl
theorem zcw_160 : Cond.code yX7_go cX7_go 3 none ∈ zgt := zmem (List.mem_append_right _ (List.mem_append_right _ (List.mem_append_right _ (List.mem_append_right _ (List.mem_append_left _ (List.mem_of_getElem? (i := 70) rfl)))))) rfl
theorem zcw_161 : Cond.code yX7_weeks cX7_weeks 2 (some .int) ∈ zgt := zmem (List.mem_append_right _ (List.mem_append_right _ (List.mem_append_right _ (List.mem_append_right _ (List.mem_append_left _ (List.mem_of_getElem? (i := 66) rfl)))))) rfl
theorem zcw_162 : Cond.code yX7_coins cX7_coins 3 (some .int) ∈ zgt := zmem (List.mem_append_right _ (List.mem_append_right _ (List.mem_append_right _ (List.mem_append_right _ (List.mem_append_left _ (List.mem_of_getElem? (i := 104) rfl)))))) rfl
theorem zcw_163 : Cond.code yX7_seed cX7_seed 3 (some .int) ∈ zgt := zmem (List.mem_append_right _ (List.mem_append_right _ (List.mem_append_right _ (List.mem_append_right _ (List.mem_append_left _ (List.mem_of_getElem? (i := 117) rfl)))))) rfl
theorem zcw_164 : Cond.code yX7_moves cX7_moves 4 (some .int) ∈ zgt := zmem (List.mem_append_right _ (List.mem_append_right _ (List.mem_append_right _ (List.mem_append_right _ (List.mem_append_left _ (List.mem_of_getElem? (i := 121) rfl)))))) rfl
theorem zcw_165 : Cond.code yX7_isAhead cX7_isAhead 1 (some .boolean) ∈ zgt := zmem (List.mem_append_right _ (List.mem_append_right _ (List.mem_append_right _ (List.mem_append_right _ (List.mem_append_left _ (List.mem_of_getElem? (i := 128) rfl)))))) rfl
theorem zcw_166 : Cond.code yX7_then cX7_then 3 (some .int) ∈ zgt := zmem (List.mem_append_right _ (List.mem_append_right _ (List.mem_append_right _ (List.mem_append_right _ (List.mem_append_left _ (List.mem_of_getElem? (i := 125) rfl)))))) rfl
theorem zcw_167 : Cond.code yX7_thenOf cX7_thenOf 5 (some .int) ∈ zgt := zmem (List.mem_append_right _ (List.mem_append_right _ (List.mem_append_right _ (List.mem_append_right _ (List.mem_append_left _ (List.mem_of_getElem? (i := 139) rfl)))))) rfl
theorem zcw_168 : Cond.code yX7_thenPlace cX7_thenPlace 4 (some .int) ∈ zgt := zmem (List.mem_append_right _ (List.mem_append_right _ (List.mem_append_right _ (List.mem_append_right _ (List.mem_append_left _ (List.mem_of_getElem? (i := 135) rfl)))))) rfl
theorem zcw_169 : Cond.code yX7_whose cX7_whose 1 (some .int) ∈ zgt := zmem (List.mem_append_right _ (List.mem_append_right _ (List.mem_append_right _ (List.mem_append_right _ (List.mem_append_left _ (List.mem_of_getElem? (i := 143) rfl)))))) rfl
theorem zcw_170 : Cond.code yX7_comesTo cX7_comesTo 5 (some .int) ∈ zgt := zmem (List.mem_append_right _ (List.mem_append_right _ (List.mem_append_right _ (List.mem_append_right _ (List.mem_append_left _ (List.mem_of_getElem? (i := 151) rfl)))))) rfl
theorem zcw_171 : Cond.code yX7_comes cX7_comes 4 (some .int) ∈ zgt := zmem (List.mem_append_right _ (List.mem_append_right _ (List.mem_append_right _ (List.mem_append_right _ (List.mem_append_left _ (List.mem_of_getElem? (i := 147) rfl)))))) rfl
theorem zcw_172 : Cond.code yX7_least cX7_least 7 (some .int) ∈ zgt := zmem (List.mem_append_right _ (List.mem_append_right _ (List.mem_append_right _ (List.mem_append_right _ (List.mem_append_left _ (List.mem_of_getElem? (i := 155) rfl)))))) rfl
theorem zcw_173 : Cond.code yX7_thenHushed cX7_thenHushed 7 (some .int) ∈ zgt := zmem (List.mem_append_right _ (List.mem_append_right _ (List.mem_append_right _ (List.mem_append_right _ (List.mem_append_left _ (List.mem_of_getElem? (i := 163) rfl)))))) rfl
theorem zcw_174 : Cond.code yX7_hush cX7_hush 7 (some .int) ∈ zgt := zmem (List.mem_append_right _ (List.mem_append_right _ (List.mem_append_right _ (List.mem_append_right _ (List.mem_append_left _ (List.mem_of_getElem? (i := 159) rfl)))))) rfl
theorem zcw_175 : Cond.code yX7_worths cX7_worths 4 (some .int) ∈ zgt := zmem (List.mem_append_right _ (List.mem_append_right _ (List.mem_append_right _ (List.mem_append_right _ (List.mem_append_left _ (List.mem_of_getElem? (i := 171) rfl)))))) rfl
theorem zcw_176 : Cond.code yX7_best cX7_best 5 (some .int) ∈ zgt := zmem (List.mem_append_right _ (List.mem_append_right _ (List.mem_append_right _ (List.mem_append_right _ (List.mem_append_left _ (List.mem_of_getElem? (i := 167) rfl)))))) rfl
theorem zcw_177 : Cond.code yX7_beside cX7_beside 9 (some .int) ∈ zgt := zmem (List.mem_append_right _ (List.mem_append_right _ (List.mem_append_right _ (List.mem_append_right _ (List.mem_append_left _ (List.mem_of_getElem? (i := 175) rfl)))))) rfl
theorem zcw_178 : Cond.code yX7_isAs cX7_isAs 5 (some .boolean) ∈ zgt := zmem (List.mem_append_right _ (List.mem_append_right _ (List.mem_append_right _ (List.mem_append_right _ (List.mem_append_left _ (List.mem_of_getElem? (i := 183) rfl)))))) rfl
theorem zcw_179 : Cond.code yX7_round cX7_round 5 (some .int) ∈ zgt := zmem (List.mem_append_right _ (List.mem_append_right _ (List.mem_append_right _ (List.mem_append_right _ (List.mem_append_left _ (List.mem_of_getElem? (i := 179) rfl)))))) rfl
theorem zcw_180 : Cond.code yX7_share cX7_share 5 (some .int) ∈ zgt := zmem (List.mem_append_right _ (List.mem_append_right _ (List.mem_append_right _ (List.mem_append_right _ (List.mem_append_left _ (List.mem_of_getElem? (i := 187) rfl)))))) rfl
theorem zcw_181 : Cond.code yX7_begins cX7_begins 2 none ∈ zgt := zmem (List.mem_append_right _ (List.mem_append_right _ (List.mem_append_right _ (List.mem_append_right _ (List.mem_append_left _ (List.mem_of_getElem? (i := 203) rfl)))))) rfl
theorem zcw_182 : Cond.code yX7_above cX7_above 1 (some .int) ∈ zgt := zmem (List.mem_append_right _ (List.mem_append_right _ (List.mem_append_right _ (List.mem_append_right _ (List.mem_append_left _ (List.mem_of_getElem? (i := 206) rfl)))))) rfl
theorem zcw_183 : Cond.code yX7_kindNow cX7_kindNow 1 (some .int) ∈ zgt := zmem (List.mem_append_right _ (List.mem_append_right _ (List.mem_append_right _ (List.mem_append_right _ (List.mem_append_left _ (List.mem_of_getElem? (i := 195) rfl)))))) rfl
theorem zcw_184 : Cond.code yX7_mNow cX7_mNow 1 (some .int) ∈ zgt := zmem (List.mem_append_right _ (List.mem_append_right _ (List.mem_append_right _ (List.mem_append_right _ (List.mem_append_left _ (List.mem_of_getElem? (i := 210) rfl)))))) rfl
theorem zcw_185 : Cond.code yX7_calls cX7_calls 3 (some .int) ∈ zgt := zmem (List.mem_append_right _ (List.mem_append_right _ (List.mem_append_right _ (List.mem_append_right _ (List.mem_append_left _ (List.mem_of_getElem? (i := 199) rfl)))))) rfl
theorem zcw_186 : Cond.code yX7_goes cX7_goes 3 (some .int) ∈ zgt := zmem (List.mem_append_right _ (List.mem_append_right _ (List.mem_append_right _ (List.mem_append_right _ (List.mem_append_left _ (List.mem_of_getElem? (i := 214) rfl)))))) rfl
theorem zcw_187 : Cond.code yX7_rests cX7_rests 3 (some .int) ∈ zgt := zmem (List.mem_append_right _ (List.mem_append_right _ (List.mem_append_right _ (List.mem_append_right _ (List.mem_append_left _ (List.mem_of_getElem? (i := 218) rfl)))))) rfl
theorem zcw_188 : Cond.code yX7_paysBy cX7_paysBy 5 (some .int) ∈ zgt := zmem (List.mem_append_right _ (List.mem_append_right _ (List.mem_append_right _ (List.mem_append_right _ (List.mem_append_left _ (List.mem_of_getElem? (i := 222) rfl)))))) rfl
theorem zcw_189 : Cond.code yX7_voice cX7_voice 6 (some .int) ∈ zgt := zmem (List.mem_append_right _ (List.mem_append_right _ (List.mem_append_right _ (List.mem_append_right _ (List.mem_append_left _ (List.mem_of_getElem? (i := 191) rfl)))))) rfl
theorem zcw_190 : Cond.code yX7_body cX7_body 2 (some .int) ∈ zgt := zmem (List.mem_append_right _ (List.mem_append_right _ (List.mem_append_right _ (List.mem_append_right _ (List.mem_append_left _ (List.mem_of_getElem? (i := 226) rfl)))))) rfl
theorem zcw_191 : Cond.code yX7_isSheet cX7_isSheet 1 (some .boolean) ∈ zgt := zmem (List.mem_append_right _ (List.mem_append_right _ (List.mem_append_right _ (List.mem_append_right _ (List.mem_append_left _ (List.mem_of_getElem? (i := 233) rfl)))))) rfl
theorem zcw_192 : Cond.code yX7_sheet cX7_sheet 5 (some .int) ∈ zgt := zmem (List.mem_append_right _ (List.mem_append_right _ (List.mem_append_right _ (List.mem_append_right _ (List.mem_append_left _ (List.mem_of_getElem? (i := 230) rfl)))))) rfl
theorem zcw_193 : Cond.code yX7_put cX7_put 5 (some .int) ∈ zgt := zmem (List.mem_append_right _ (List.mem_append_right _ (List.mem_append_right _ (List.mem_append_right _ (List.mem_append_left _ (List.mem_of_getElem? (i := 237) rfl)))))) rfl
theorem zcw_194 : Cond.code yX7_move cX7_move 7 (some .int) ∈ zgt := zmem (List.mem_append_right _ (List.mem_append_right _ (List.mem_append_right _ (List.mem_append_right _ (List.mem_append_right _ (List.mem_of_getElem? (i := 1) rfl)))))) rfl
theorem zcw_195 : Cond.code yX7_lacks cX7_lacks 2 (some .int) ∈ zgt := zmem (List.mem_append_right _ (List.mem_append_right _ (List.mem_append_right _ (List.mem_append_right _ (List.mem_append_right _ (List.mem_of_getElem? (i := 9) rfl)))))) rfl
theorem zcw_196 : Cond.code yX7_voices cX7_voices 4 (some .int) ∈ zgt := zmem (List.mem_append_right _ (List.mem_append_right _ (List.mem_append_right _ (List.mem_append_right _ (List.mem_append_right _ (List.mem_of_getElem? (i := 5) rfl)))))) rfl
theorem zcw_197 : Cond.code yX7_judge cX7_judge 5 (some .int) ∈ zgt := zmem (List.mem_append_right _ (List.mem_append_right _ (List.mem_append_right _ (List.mem_append_right _ (List.mem_append_right _ (List.mem_of_getElem? (i := 13) rfl)))))) rfl
theorem zcw_198 : Cond.code yX7_image cX7_image 1 (some .int) ∈ zgt := zmem (List.mem_append_right _ (List.mem_append_right _ (List.mem_append_right _ (List.mem_append_right _ (List.mem_append_right _ (List.mem_of_getElem? (i := 17) rfl)))))) rfl
theorem zcw_199 : Cond.code yX7_restore cX7_restore 1 (some .int) ∈ zgt := zmem (List.mem_append_right _ (List.mem_append_right _ (List.mem_append_right _ (List.mem_append_right _ (List.mem_append_right _ (List.mem_of_getElem? (i := 21) rfl)))))) rfl
theorem zcw_200 : Cond.code yX7_tell cX7_tell 2 (some .int) ∈ zgt := zmem (List.mem_append_right _ (List.mem_append_right _ (List.mem_append_right _ (List.mem_append_right _ (List.mem_append_right _ (List.mem_of_getElem? (i := 25) rfl)))))) rfl
theorem zcw_201 : Cond.code yX7_check cX7_check 3 (some .int) ∈ zgt := zmem (List.mem_append_right _ (List.mem_append_right _ (List.mem_append_right _ (List.mem_append_right _ (List.mem_append_right _ (List.mem_of_getElem? (i := 29) rfl)))))) rfl
theorem zcw_202 : Cond.code yX7_count cX7_count 4 (some .int) ∈ zgt := zmem (List.mem_append_right _ (List.mem_append_right _ (List.mem_append_right _ (List.mem_append_right _ (List.mem_append_right _ (List.mem_of_getElem? (i := 33) rfl)))))) rfl
theorem zcw_203 : Cond.code yX7_told cX7_told 2 (some .int) ∈ zgt := zmem (List.mem_append_right _ (List.mem_append_right _ (List.mem_append_right _ (List.mem_append_right _ (List.mem_append_right _ (List.mem_of_getElem? (i := 37) rfl)))))) rfl
theorem zcw_204 : Cond.code yJ9_abs_0f7a4 cJ9_abs_0f7a4 1 (some .int) ∈ zgt := zmem (List.mem_append_right _ (List.mem_append_left _ (List.mem_of_getElem? (i := 38) rfl))) rfl
theorem zcw_205 : Cond.code yJ9_max_7cf53 cJ9_max_7cf53 2 (some .int) ∈ zgt := zmem (List.mem_append_right _ (List.mem_append_left _ (List.mem_of_getElem? (i := 101) rfl))) rfl
theorem zcw_206 : Cond.code yJ9_min_7cf53 cJ9_min_7cf53 2 (some .int) ∈ zgt := zmem (List.mem_append_right _ (List.mem_append_left _ (List.mem_of_getElem? (i := 107) rfl))) rfl
theorem zcw_207 : Cond.code yJ0_isLatin1_aae02 cJ0_isLatin1_aae02 1 (some .boolean) ∈ zgt := zmem (List.mem_append_right _ (List.mem_append_left _ (List.mem_of_getElem? (i := 191) rfl))) rfl
theorem zcw_208 : Cond.code yJ0_coder_7d493 cJ0_coder_7d493 1 (some .byte) ∈ zgt := zmem (List.mem_append_left _ (List.mem_of_getElem? (i := 64) rfl)) rfl
theorem zcw_209 : Cond.code yJ0_length_8abf5 cJ0_length_8abf5 1 (some .int) ∈ zgt := zmem (List.mem_append_left _ (List.mem_of_getElem? (i := 60) rfl)) rfl
theorem zcw_210 : Cond.code yJ0_indexOf_7cf53 cJ0_indexOf_7cf53 3 (some .int) ∈ zgt := zmem (List.mem_append_right _ (List.mem_append_left _ (List.mem_of_getElem? (i := 187) rfl))) rfl
theorem zcw_211 : Cond.code yJ0_indexOf_0f7a4 cJ0_indexOf_0f7a4 2 (some .int) ∈ zgt := zmem (List.mem_append_right _ (List.mem_append_left _ (List.mem_of_getElem? (i := 183) rfl))) rfl
theorem zcw_212 : Cond.code yJ1_canEncode_9a6ad cJ1_canEncode_9a6ad 1 (some .boolean) ∈ zgt := zmem (List.mem_append_right _ (List.mem_append_left _ (List.mem_of_getElem? (i := 198) rfl))) rfl
theorem zcw_213 : Cond.code yJ1_indexOfChar_4cfef cJ1_indexOfChar_4cfef 6 (some .int) ∈ zgt := zmem (List.mem_append_right _ (List.mem_append_left _ (List.mem_of_getElem? (i := 203) rfl))) rfl
theorem zcw_214 : Cond.code yJ1_indexOf_4cfef cJ1_indexOf_4cfef 4 (some .int) ∈ zgt := zmem (List.mem_append_right _ (List.mem_append_left _ (List.mem_of_getElem? (i := 195) rfl))) rfl

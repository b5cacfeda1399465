/-! the methods by their numbers: names, code, what they return, whose they are -/
def eb_ys : List (List MethodName) := [
  [yX0_init, yX0_become, yX0_isOf, yX0_leaveBeds, yX0_goesByBook, yX0_comesLate, yX1_init, yX1_open, yX1_becomeLike, yX1_hasRoomForLetter, yX1_receiveLetter, yX1_leanWith, yX1_isFull, yX1_joyOfHead, yX1_takenTonight, yX1_growOlder],
  [yX2_init, yX2_holdsRow, yX2_holdsGoer, yX2_holdRow, yX2_hasRun, yX2_put, yX2_lowestBits, yX3_init, yX3_append, yX3_readInto, yX3_readStatement, yX3_readInn, yX3_readGoer, yX3_readLetter, yX3_readAge, yX3_readWrite],
  [yX3_takeNumber, yX3_numberWithin, yX3_isWord, yX3_readToken, yX3_tokenAt, yX3_byteAt, yX4_init, yX4_becomeLike, yX4_addInn, yX4_addGoer, yX4_writeBook, yX4_innsInBook, yX4_roomsOfAll, yX4_headsOfAll, yX4_truestInn, yX4_scoreOf],
  [yX4_firstChoice, yX4_crowdOf, yX4_spendNight, yX4_spendNightWithTwoBooks, yX4_beginNight, yX4_lineUp, yX4_lateOnes, yX4_lodge, yX4_bestWithRooms, yX4_fullInns, yX4_outsideOfAll, yX4_joyOf, yX4_joyOfAll, yX4_passYears, yX4_endYear, yX4_joyInYearsOfOwn],
  [yX4_staysGood, yX4_drawLetter, yX4_draw, yX5_init, yX5_row, yX5_set, yX5_copy, yX5_element, yX5_holds, yX5_show, yX5_says, yX5_inn, yX5_goer, yX5_change, yX5_say, yX5_write],
  [yX5_letter, yX5_age, yX5_heads, yX5_feed, yX5_wipe, yX5_valley, yX5_innOf, yX5_goerOf, yX5_score, yX5_sleeps, yX5_guests, yX5_out, yX5_full, yX5_joy, yX5_taken, yX5_crowd],
  [yX5_lean, yX5_truest, yX5_oldest, yX5_enough, yX5_better, yX5_trust, yX5_share, yX5_nine, yX5_two, yX5_judge, yX5_years, yX5_then, yX5_book, yX5_written, yX5_many, yX5_round],
  [yX5_kept, yX5_called, yX5_spoilt, yX5_bears, yX5_recovers, yX5_dearest, yX5_year, yX5_goes, yX5_post, yX5_seed, yX5_image, yX5_back, yX5_status, yX5_refuse, yX5_refuseBelowZero, yX5_within],
  [yX5_isShelf, yX5_isGood, yX5_isSpan, yX5_isInn, yX5_isGoer, yX5_isGoerOrNone, yX5_isSet, yX5_rowFault, yX5_shelvesInUse, yX5_tonight, yX5_think, yX5_joyIfWritten, yX5_bestBook, yX5_joyIfGoneRound, yX5_innOfRound, yX5_power],
  [yX6_init, yX6_refuse, yX6_in, yX6_within, yX6_isInn, yX6_isGoer, yX6_isYears, yX6_row, yX6_fit, yX6_noRow, yX6_set, yX6_copy, yX6_element, yX6_holds, yX6_show, yX6_isUnder],
  [yX6_says, yX6_addInn, yX6_inn, yX6_goer, yX6_change, yX6_say, yX6_writes, yX6_isSet, yX6_write, yX6_getsLetter, yX6_letter, yX6_age, yX6_heads, yX6_feed, yX6_wipe, yX6_isLetter],
  [yX6_isDigit, yX6_look, yX6_wrong, yX6_isWord, yX6_number, yX6_tells, yX6_innTold, yX6_letterTold, yX6_writeTold, yX6_statement, yX6_readAll, yX6_valley, yX6_innOf, yX6_goerOf, yX6_booked, yX6_scoreBy],
  [yX6_scoreOf, yX6_score, yX6_choiceOf, yX6_startNight, yX6_comes, yX6_goThrough, yX6_headsIn, yX6_sleeps, yX6_guests, yX6_out, yX6_full, yX6_joyOf, yX6_joyBy, yX6_joy, yX6_taken, yX6_isByBook],
  [yX6_crowd, yX6_lean, yX6_truestOf, yX6_truest, yX6_wrongBy, yX6_oldest, yX6_enough, yX6_better, yX6_isChoice, yX6_trust, yX6_share, yX6_nine, yX6_two, yX6_readBook, yX6_judge, yX6_yearGoesBy],
  [yX6_joyIn, yX6_years, yX6_then, yX6_writtenBy, yX6_bestBook, yX6_book, yX6_written, yX6_many, yX6_findRound, yX6_round, yX6_ownJoy, yX6_kept, yX6_called, yX6_spoilt, yX6_bears, yX6_recovers],
  [yX6_dearest, yX6_year, yX6_goes, yX6_draw, yX6_post, yX6_seed, yX6_fresh, yX6_over, yX6_takeFrom, yX6_image, yX6_back, yX6_status, yJ6_bitCount_0f7a4, yL_law]]
def eb_y (m : Nat) : MethodName := ((eb_ys).getD (m / 16) []).getD (m % 16) yL_law
def eb_bs : List (List ByteArray) := [
  [cX0_init, cX0_become, cX0_isOf, cX0_leaveBeds, cX0_goesByBook, cX0_comesLate, cX1_init, cX1_open, cX1_becomeLike, cX1_hasRoomForLetter, cX1_receiveLetter, cX1_leanWith, cX1_isFull, cX1_joyOfHead, cX1_takenTonight, cX1_growOlder],
  [cX2_init, cX2_holdsRow, cX2_holdsGoer, cX2_holdRow, cX2_hasRun, cX2_put, cX2_lowestBits, cX3_init, cX3_append, cX3_readInto, cX3_readStatement, cX3_readInn, cX3_readGoer, cX3_readLetter, cX3_readAge, cX3_readWrite],
  [cX3_takeNumber, cX3_numberWithin, cX3_isWord, cX3_readToken, cX3_tokenAt, cX3_byteAt, cX4_init, cX4_becomeLike, cX4_addInn, cX4_addGoer, cX4_writeBook, cX4_innsInBook, cX4_roomsOfAll, cX4_headsOfAll, cX4_truestInn, cX4_scoreOf],
  [cX4_firstChoice, cX4_crowdOf, cX4_spendNight, cX4_spendNightWithTwoBooks, cX4_beginNight, cX4_lineUp, cX4_lateOnes, cX4_lodge, cX4_bestWithRooms, cX4_fullInns, cX4_outsideOfAll, cX4_joyOf, cX4_joyOfAll, cX4_passYears, cX4_endYear, cX4_joyInYearsOfOwn],
  [cX4_staysGood, cX4_drawLetter, cX4_draw, cX5_init, cX5_row, cX5_set, cX5_copy, cX5_element, cX5_holds, cX5_show, cX5_says, cX5_inn, cX5_goer, cX5_change, cX5_say, cX5_write],
  [cX5_letter, cX5_age, cX5_heads, cX5_feed, cX5_wipe, cX5_valley, cX5_innOf, cX5_goerOf, cX5_score, cX5_sleeps, cX5_guests, cX5_out, cX5_full, cX5_joy, cX5_taken, cX5_crowd],
  [cX5_lean, cX5_truest, cX5_oldest, cX5_enough, cX5_better, cX5_trust, cX5_share, cX5_nine, cX5_two, cX5_judge, cX5_years, cX5_then, cX5_book, cX5_written, cX5_many, cX5_round],
  [cX5_kept, cX5_called, cX5_spoilt, cX5_bears, cX5_recovers, cX5_dearest, cX5_year, cX5_goes, cX5_post, cX5_seed, cX5_image, cX5_back, cX5_status, cX5_refuse, cX5_refuseBelowZero, cX5_within],
  [cX5_isShelf, cX5_isGood, cX5_isSpan, cX5_isInn, cX5_isGoer, cX5_isGoerOrNone, cX5_isSet, cX5_rowFault, cX5_shelvesInUse, cX5_tonight, cX5_think, cX5_joyIfWritten, cX5_bestBook, cX5_joyIfGoneRound, cX5_innOfRound, cX5_power],
  [cX6_init, cX6_refuse, cX6_in, cX6_within, cX6_isInn, cX6_isGoer, cX6_isYears, cX6_row, cX6_fit, cX6_noRow, cX6_set, cX6_copy, cX6_element, cX6_holds, cX6_show, cX6_isUnder],
  [cX6_says, cX6_addInn, cX6_inn, cX6_goer, cX6_change, cX6_say, cX6_writes, cX6_isSet, cX6_write, cX6_getsLetter, cX6_letter, cX6_age, cX6_heads, cX6_feed, cX6_wipe, cX6_isLetter],
  [cX6_isDigit, cX6_look, cX6_wrong, cX6_isWord, cX6_number, cX6_tells, cX6_innTold, cX6_letterTold, cX6_writeTold, cX6_statement, cX6_readAll, cX6_valley, cX6_innOf, cX6_goerOf, cX6_booked, cX6_scoreBy],
  [cX6_scoreOf, cX6_score, cX6_choiceOf, cX6_startNight, cX6_comes, cX6_goThrough, cX6_headsIn, cX6_sleeps, cX6_guests, cX6_out, cX6_full, cX6_joyOf, cX6_joyBy, cX6_joy, cX6_taken, cX6_isByBook],
  [cX6_crowd, cX6_lean, cX6_truestOf, cX6_truest, cX6_wrongBy, cX6_oldest, cX6_enough, cX6_better, cX6_isChoice, cX6_trust, cX6_share, cX6_nine, cX6_two, cX6_readBook, cX6_judge, cX6_yearGoesBy],
  [cX6_joyIn, cX6_years, cX6_then, cX6_writtenBy, cX6_bestBook, cX6_book, cX6_written, cX6_many, cX6_findRound, cX6_round, cX6_ownJoy, cX6_kept, cX6_called, cX6_spoilt, cX6_bears, cX6_recovers],
  [cX6_dearest, cX6_year, cX6_goes, cX6_draw, cX6_post, cX6_seed, cX6_fresh, cX6_over, cX6_takeFrom, cX6_image, cX6_back, cX6_status, cJ6_bitCount_0f7a4, cL_law]]
def eb_b (m : Nat) : ByteArray := ((eb_bs).getD (m / 16) []).getD (m % 16) cL_law
def eb_rts : List (List (Option FieldType)) := [
  [none, none, (some .boolean), none, (some .boolean), (some .boolean), none, none, none, (some .boolean), (some .boolean), (some .int), (some .boolean), (some .int), (some .int), none],
  [none, (some .boolean), (some .boolean), none, (some .boolean), none, (some .long), none, (some .boolean), (some .int), (some .boolean), (some .boolean), (some .boolean), (some .boolean), (some .boolean), (some .boolean)],
  [(some .int), (some .int), (some .boolean), none, (some .int), (some .int), none, none, (some .int), (some .int), (some .int), (some .int), (some .int), (some .int), (some .int), (some .int)],
  [(some .int), (some .int), none, none, none, none, (some .int), none, (some .int), (some .int), (some .int), (some .int), (some .int), (some .int), (some .int), (some .int)],
  [(some .boolean), (some .boolean), (some .int), none, (some .int), (some .int), (some .int), (some .long), (some .int), (some .int), (some .int), (some .int), (some .int), (some .int), (some .int), (some .int)],
  [(some .int), (some .int), (some .int), (some .int), (some .int), (some .int), (some .int), (some .int), (some .int), (some .int), (some .int), (some .int), (some .int), (some .int), (some .int), (some .int)],
  [(some .int), (some .int), (some .int), (some .int), (some .int), (some .int), (some .int), (some .int), (some .int), (some .int), (some .int), (some .int), (some .int), (some .int), (some .int), (some .int)],
  [(some .int), (some .int), (some .int), (some .int), (some .int), (some .int), (some .int), (some .int), (some .int), (some .int), (some .int), (some .int), (some .int), (some .int), (some .int), (some .boolean)],
  [(some .boolean), (some .boolean), (some .boolean), (some .boolean), (some .boolean), (some .boolean), (some .boolean), (some .int), (some .int), (some (.object "EverybodyHasTheBook$Valley")), (some (.object "EverybodyHasTheBook$Valley")), (some .int), (some .int), (some .int), (some .int), (some .int)],
  [none, (some .int), (some .boolean), (some .int), (some .boolean), (some .boolean), (some .boolean), (some .int), (some .long), (some .int), (some .int), (some .int), (some .long), (some .int), (some .int), (some .boolean)],
  [(some .int), none, (some .int), (some .int), (some .int), (some .int), (some .int), (some .boolean), (some .int), none, (some .int), (some .int), (some .int), (some .int), (some .int), (some .boolean)],
  [(some .boolean), none, (some .boolean), (some .boolean), (some .boolean), (some .boolean), (some .boolean), (some .boolean), (some .boolean), (some .boolean), (some .boolean), (some .int), (some .int), (some .int), (some .int), (some .int)],
  [(some .int), (some .int), (some .int), none, none, none, (some .int), (some .int), (some .int), (some .int), (some .int), (some .int), (some .int), (some .int), (some .int), (some .boolean)],
  [(some .int), (some .int), (some .int), (some .int), (some .int), (some .int), (some .int), (some .int), (some .boolean), (some .int), (some .int), (some .int), (some .int), none, (some .int), none],
  [(some .int), (some .int), (some .int), (some .int), (some .int), (some .int), (some .int), (some .int), none, (some .int), (some .int), (some .int), (some .int), (some .int), (some .int), (some .int)],
  [(some .int), (some .int), (some .int), (some .int), (some .int), (some .int), (some (.object "EverybodyHasTheBookModel")), none, none, (some .int), (some .int), (some .int), (some .int), (some .boolean)]]
def eb_rt (m : Nat) : (Option FieldType) := ((eb_rts).getD (m / 16) []).getD (m % 16) none
def eb_ocs : List (List Nat) := [
  [0, 0, 0, 0, 0, 0, 1, 1, 1, 1, 1, 1, 1, 1, 1, 1],
  [2, 2, 2, 2, 2, 2, 2, 3, 3, 3, 3, 3, 3, 3, 3, 3],
  [3, 3, 3, 3, 3, 3, 4, 4, 4, 4, 4, 4, 4, 4, 4, 4],
  [4, 4, 4, 4, 4, 4, 4, 4, 4, 4, 4, 4, 4, 4, 4, 4],
  [4, 4, 4, 5, 5, 5, 5, 5, 5, 5, 5, 5, 5, 5, 5, 5],
  [5, 5, 5, 5, 5, 5, 5, 5, 5, 5, 5, 5, 5, 5, 5, 5],
  [5, 5, 5, 5, 5, 5, 5, 5, 5, 5, 5, 5, 5, 5, 5, 5],
  [5, 5, 5, 5, 5, 5, 5, 5, 5, 5, 5, 5, 5, 5, 5, 5],
  [5, 5, 5, 5, 5, 5, 5, 5, 5, 5, 5, 5, 5, 5, 5, 5],
  [6, 6, 6, 6, 6, 6, 6, 6, 6, 6, 6, 6, 6, 6, 6, 6],
  [6, 6, 6, 6, 6, 6, 6, 6, 6, 6, 6, 6, 6, 6, 6, 6],
  [6, 6, 6, 6, 6, 6, 6, 6, 6, 6, 6, 6, 6, 6, 6, 6],
  [6, 6, 6, 6, 6, 6, 6, 6, 6, 6, 6, 6, 6, 6, 6, 6],
  [6, 6, 6, 6, 6, 6, 6, 6, 6, 6, 6, 6, 6, 6, 6, 6],
  [6, 6, 6, 6, 6, 6, 6, 6, 6, 6, 6, 6, 6, 6, 6, 6],
  [6, 6, 6, 6, 6, 6, 6, 6, 6, 6, 6, 6, 7, 8]]
def eb_oc (m : Nat) : Nat := ((eb_ocs).getD (m / 16) []).getD (m % 16) 8
def eb_cN (c : Nat) : String := match c with
  | 0 => RX0
  | 1 => RX1
  | 2 => RX2
  | 3 => RX3
  | 4 => RX4
  | 5 => RX5
  | 6 => RX6
  | 7 => RJ6
  | _ => RL
def eb_tT (c : Nat) : u_T := match c with
  | 0 => TX0
  | 1 => TX1
  | 2 => TX2
  | 3 => TX3
  | 4 => TX4
  | 5 => TX5
  | _ => TX6
def eb_tt (c : Nat) : Nat → FieldType := match c with
  | 0 => tyX0
  | 1 => tyX1
  | 2 => tyX2
  | 3 => tyX3
  | 4 => tyX4
  | 5 => tyX5
  | _ => tyX6
def eb_nf (c : Nat) : Nat := match c with
  | 0 => 6
  | 1 => 9
  | 2 => 3
  | 3 => 5
  | 4 => 9
  | 5 => 7
  | _ => 34
def eb_own (m : Nat) : String := eb_cN (eb_oc m)
def eb_LT : List Cond := lw_tbl.filter goodWord
theorem eb_lt {w : Cond} (i : Nat) (h : (lw_tbl[i]? = some w ∧ goodWord w = true)) : w ∈ eb_LT := List.mem_filter.mpr ⟨List.mem_of_getElem? h.1, h.2⟩
theorem eb_LTg : GoodIn eb_LT eb_LT := fun w h => ⟨h, good_of_word (List.mem_filter.mp h).2⟩
def eb_ws (m : Nat) : List Cond := Cond.code (eb_y m) (eb_b m) (eb_ml m) (eb_rt m) :: eb_LT

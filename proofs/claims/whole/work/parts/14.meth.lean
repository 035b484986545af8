theorem tb1 {w : Cond} (h : w ∈ tables_1_1) (hg : goodWord w = true) : w ∈ TB := tb_mem (List.mem_append_right _ (List.mem_append_left _ h)) hg
theorem tb2 {w : Cond} (h : w ∈ tables_1_2) (hg : goodWord w = true) : w ∈ TB := tb_mem (List.mem_append_right _ (List.mem_append_right _ (List.mem_append_left _ h))) hg
theorem tb3 {w : Cond} (h : w ∈ tables_1_3) (hg : goodWord w = true) : w ∈ TB := tb_mem (List.mem_append_right _ (List.mem_append_right _ (List.mem_append_right _ (List.mem_append_left _ h)))) hg
theorem tb4 {w : Cond} (h : w ∈ tables_1_4) (hg : goodWord w = true) : w ∈ TB := tb_mem (List.mem_append_right _ (List.mem_append_right _ (List.mem_append_right _ (List.mem_append_right _ (List.mem_append_left _ h))))) hg
theorem tb5 {w : Cond} (h : w ∈ tables_1_5) (hg : goodWord w = true) : w ∈ TB := tb_mem (List.mem_append_right _ (List.mem_append_right _ (List.mem_append_right _ (List.mem_append_right _ (List.mem_append_right _ (h)))))) hg
theorem tbs {q : MethodName × Nat} (h : q ∈ lw_privs) : Cond.selects q.1.cls q.1 q.1 ∈ TB := tb_mem (List.mem_append_left _ (List.mem_map.mpr ⟨q, h, rfl⟩)) rfl
def M_X0_forgetAll : Mth := (RX0, cX0_forgetAll, 1, none, yX0_forgetAll)
def M_X0_init : Mth := (RX0, cX0_init, 1, none, yX0_init)
def M_X0_keep : Mth := (RX0, cX0_keep, 6, none, yX0_keep)
def M_X0_keepDay : Mth := (RX0, cX0_keepDay, 1, none, yX0_keepDay)
def M_X0_keepForged : Mth := (RX0, cX0_keepForged, 4, none, yX0_keepForged)
def M_X0_keepLost : Mth := (RX0, cX0_keepLost, 2, none, yX0_keepLost)
def M_X0_latestPlace : Mth := (RX0, cX0_latestPlace, 1, (some .int), yX0_latestPlace)
def M_X0_takeBack : Mth := (RX0, cX0_takeBack, 3, none, yX0_takeBack)
def M_X1_answer : Mth := (RX1, cX1_answer, 5, (some .int), yX1_answer)
def M_X1_give : Mth := (RX1, cX1_give, 7, (some .int), yX1_give)
def M_X1_init : Mth := (RX1, cX1_init, 1, none, yX1_init)
def M_X1_leave : Mth := (RX1, cX1_leave, 2, none, yX1_leave)
def M_X2_begin : Mth := (RX2, cX2_begin, 2, none, yX2_begin)
def M_X2_compareNames : Mth := (RX2, cX2_compareNames, 8, (some .int), yX2_compareNames)
def M_X2_firstOn : Mth := (RX2, cX2_firstOn, 7, (some .int), yX2_firstOn)
def M_X2_freeDay : Mth := (RX2, cX2_freeDay, 2, (some .int), yX2_freeDay)
def M_X2_howMany : Mth := (RX2, cX2_howMany, 4, (some .int), yX2_howMany)
def M_X2_howManyBefore : Mth := (RX2, cX2_howManyBefore, 5, (some .int), yX2_howManyBefore)
def M_X2_howManyWaitWith : Mth := (RX2, cX2_howManyWaitWith, 4, (some .int), yX2_howManyWaitWith)
def M_X2_init : Mth := (RX2, cX2_init, 1, none, yX2_init)
def M_X2_isBefore : Mth := (RX2, cX2_isBefore, 6, (some .boolean), yX2_isBefore)
def M_X2_isSeated : Mth := (RX2, cX2_isSeated, 2, (some .boolean), yX2_isSeated)
def M_X2_lastWaitingBut : Mth := (RX2, cX2_lastWaitingBut, 5, (some .int), yX2_lastWaitingBut)
def M_X2_letterAsRead : Mth := (RX2, cX2_letterAsRead, 3, (some .int), yX2_letterAsRead)
def M_X2_letterInOrder : Mth := (RX2, cX2_letterInOrder, 3, (some .int), yX2_letterInOrder)
def M_X2_letterOf : Mth := (RX2, cX2_letterOf, 3, (some .int), yX2_letterOf)
def M_X2_lettersAsBits : Mth := (RX2, cX2_lettersAsBits, 4, (some .int), yX2_lettersAsBits)
def M_X2_openDay : Mth := (RX2, cX2_openDay, 5, (some .int), yX2_openDay)
def M_X2_placeInOrder : Mth := (RX2, cX2_placeInOrder, 3, (some .int), yX2_placeInOrder)
def M_X2_putLetter : Mth := (RX2, cX2_putLetter, 4, none, yX2_putLetter)
def M_X2_seatTill : Mth := (RX2, cX2_seatTill, 6, none, yX2_seatTill)
def M_X2_servesOn : Mth := (RX2, cX2_servesOn, 3, (some .boolean), yX2_servesOn)
def M_X2_stateOf : Mth := (RX2, cX2_stateOf, 2, (some .int), yX2_stateOf)
def M_X2_takeBackDay : Mth := (RX2, cX2_takeBackDay, 2, none, yX2_takeBackDay)
def M_X2_takeFrom : Mth := (RX2, cX2_takeFrom, 2, none, yX2_takeFrom)
def M_X2_tellOrder : Mth := (RX2, cX2_tellOrder, 3, none, yX2_tellOrder)
def M_X2_turnOn : Mth := (RX2, cX2_turnOn, 3, (some .int), yX2_turnOn)
def M_X2_waitedByAll : Mth := (RX2, cX2_waitedByAll, 3, (some .int), yX2_waitedByAll)
def M_X2_waitsOn : Mth := (RX2, cX2_waitsOn, 3, (some .boolean), yX2_waitsOn)
def M_X3_firstOpenSeat : Mth := (RX3, cX3_firstOpenSeat, 3, (some .int), yX3_firstOpenSeat)
def M_X3_init : Mth := (RX3, cX3_init, 1, none, yX3_init)
def M_X3_openSeats : Mth := (RX3, cX3_openSeats, 3, none, yX3_openSeats)
def M_X3_plan : Mth := (RX3, cX3_plan, 5, none, yX3_plan)
def M_X3_seatOneByOne : Mth := (RX3, cX3_seatOneByOne, 9, none, yX3_seatOneByOne)
def M_X4_addByte : Mth := (RX4, cX4_addByte, 2, none, yX4_addByte)
def M_X4_hasFault : Mth := (RX4, cX4_hasFault, 2, (some .boolean), yX4_hasFault)
def M_X4_init : Mth := (RX4, cX4_init, 1, none, yX4_init)
def M_X4_isFigureAt : Mth := (RX4, cX4_isFigureAt, 2, (some .boolean), yX4_isFigureAt)
def M_X4_isLetter : Mth := (RX4, cX4_isLetter, 1, (some .boolean), yX4_isLetter)
def M_X4_isNumberIn : Mth := (RX4, cX4_isNumberIn, 3, (some .boolean), yX4_isNumberIn)
def M_X4_letterOfToken : Mth := (RX4, cX4_letterOfToken, 1, (some .int), yX4_letterOfToken)
def M_X4_passOver : Mth := (RX4, cX4_passOver, 2, (some .boolean), yX4_passOver)
def M_X4_readInto : Mth := (RX4, cX4_readInto, 2, (some .boolean), yX4_readInto)
def M_X4_readLaw : Mth := (RX4, cX4_readLaw, 2, (some .boolean), yX4_readLaw)
def M_X4_readOrder : Mth := (RX4, cX4_readOrder, 5, (some .boolean), yX4_readOrder)
def M_X4_readPeople : Mth := (RX4, cX4_readPeople, 3, (some .boolean), yX4_readPeople)
def M_X4_readPerson : Mth := (RX4, cX4_readPerson, 4, (some .boolean), yX4_readPerson)
def M_X4_step : Mth := (RX4, cX4_step, 2, none, yX4_step)
def M_X4_takeNumber : Mth := (RX4, cX4_takeNumber, 2, (some .int), yX4_takeNumber)
def M_X5_canBeBehind : Mth := (RX5, cX5_canBeBehind, 6, (some .boolean), yX5_canBeBehind)
def M_X5_findFewest : Mth := (RX5, cX5_findFewest, 6, (some .int), yX5_findFewest)
def M_X5_init : Mth := (RX5, cX5_init, 1, none, yX5_init)
def M_X5_tryNames : Mth := (RX5, cX5_tryNames, 11, (some .boolean), yX5_tryNames)
def M_X6_begin : Mth := (RX6, cX6_begin, 4, none, yX6_begin)
def M_X6_cut : Mth := (RX6, cX6_cut, 2, (some .int), yX6_cut)
def M_X6_hasRange : Mth := (RX6, cX6_hasRange, 3, (some .boolean), yX6_hasRange)
def M_X6_init : Mth := (RX6, cX6_init, 1, none, yX6_init)
def M_X6_isMissing : Mth := (RX6, cX6_isMissing, 1, (some .boolean), yX6_isMissing)
def M_X7_areAllPeople : Mth := (RX7, cX7_areAllPeople, 5, (some .boolean), yX7_areAllPeople)
def M_X7_areSeatedNext : Mth := (RX7, cX7_areSeatedNext, 6, (some .boolean), yX7_areSeatedNext)
def M_X7_as : Mth := (RX7, cX7_as, 3, (some .int), yX7_as)
def M_X7_ask : Mth := (RX7, cX7_ask, 3, (some .int), yX7_ask)
def M_X7_best : Mth := (RX7, cX7_best, 6, (some .int), yX7_best)
def M_X7_copy : Mth := (RX7, cX7_copy, 8, (some .int), yX7_copy)
def M_X7_count : Mth := (RX7, cX7_count, 2, (some .int), yX7_count)
def M_X7_court : Mth := (RX7, cX7_court, 2, (some .int), yX7_court)
def M_X7_days : Mth := (RX7, cX7_days, 3, (some .int), yX7_days)
def M_X7_drop : Mth := (RX7, cX7_drop, 4, (some .int), yX7_drop)
def M_X7_fault : Mth := (RX7, cX7_fault, 1, (some .int), yX7_fault)
def M_X7_feed : Mth := (RX7, cX7_feed, 2, (some .int), yX7_feed)
def M_X7_foretell : Mth := (RX7, cX7_foretell, 2, (some (.object "AlphaCourt$Court")), yX7_foretell)
def M_X7_forge : Mth := (RX7, cX7_forge, 5, (some .int), yX7_forge)
def M_X7_found : Mth := (RX7, cX7_found, 2, (some .int), yX7_found)
def M_X7_frees : Mth := (RX7, cX7_frees, 6, (some .int), yX7_frees)
def M_X7_howManyRows : Mth := (RX7, cX7_howManyRows, 3, (some .int), yX7_howManyRows)
def M_X7_image : Mth := (RX7, cX7_image, 2, (some .int), yX7_image)
def M_X7_init : Mth := (RX7, cX7_init, 2, none, yX7_init)
def M_X7_isIn : Mth := (RX7, cX7_isIn, 2, (some .boolean), yX7_isIn)
def M_X7_isOfKind : Mth := (RX7, cX7_isOfKind, 4, (some .boolean), yX7_isOfKind)
def M_X7_isPerson : Mth := (RX7, cX7_isPerson, 2, (some .boolean), yX7_isPerson)
def M_X7_isPlaceOfName : Mth := (RX7, cX7_isPlaceOfName, 3, (some .boolean), yX7_isPlaceOfName)
def M_X7_kind : Mth := (RX7, cX7_kind, 2, (some .int), yX7_kind)
def M_X7_last : Mth := (RX7, cX7_last, 4, (some .int), yX7_last)
def M_X7_ledger : Mth := (RX7, cX7_ledger, 7, (some .int), yX7_ledger)
def M_X7_lose : Mth := (RX7, cX7_lose, 3, (some .int), yX7_lose)
def M_X7_name : Mth := (RX7, cX7_name, 3, (some .int), yX7_name)
def M_X7_order : Mth := (RX7, cX7_order, 2, (some .int), yX7_order)
def M_X7_person : Mth := (RX7, cX7_person, 3, (some .int), yX7_person)
def M_X7_restore : Mth := (RX7, cX7_restore, 2, (some .int), yX7_restore)
def M_X7_row : Mth := (RX7, cX7_row, 4, (some .int), yX7_row)
def M_X7_set : Mth := (RX7, cX7_set, 5, (some .int), yX7_set)
def M_X7_status : Mth := (RX7, cX7_status, 1, (some .int), yX7_status)
def M_X7_trace : Mth := (RX7, cX7_trace, 2, (some .int), yX7_trace)
def M_X7_undo : Mth := (RX7, cX7_undo, 1, (some .int), yX7_undo)
def M_X7_unfound : Mth := (RX7, cX7_unfound, 2, (some .int), yX7_unfound)
def M_X7_waited : Mth := (RX7, cX7_waited, 1, (some .int), yX7_waited)
def M_X7_warden : Mth := (RX7, cX7_warden, 2, (some .int), yX7_warden)
def M_X7_when : Mth := (RX7, cX7_when, 4, (some .int), yX7_when)
def M_X8_advances : Mth := (RX8, cX8_advances, 2, none, yX8_advances)
def M_X8_ages : Mth := (RX8, cX8_ages, 3, none, yX8_ages)
def M_X8_as : Mth := (RX8, cX8_as, 5, (some .int), yX8_as)
def M_X8_ask : Mth := (RX8, cX8_ask, 4, (some .int), yX8_ask)
def M_X8_beforeIt : Mth := (RX8, cX8_beforeIt, 4, (some .int), yX8_beforeIt)
def M_X8_begins : Mth := (RX8, cX8_begins, 2, none, yX8_begins)
def M_X8_best : Mth := (RX8, cX8_best, 6, (some .int), yX8_best)
def M_X8_byteAt : Mth := (RX8, cX8_byteAt, 2, (some .int), yX8_byteAt)
def M_X8_classOf : Mth := (RX8, cX8_classOf, 3, (some .int), yX8_classOf)
def M_X8_copies : Mth := (RX8, cX8_copies, 5, none, yX8_copies)
def M_X8_copy : Mth := (RX8, cX8_copy, 7, (some .int), yX8_copy)
def M_X8_count : Mth := (RX8, cX8_count, 4, (some .int), yX8_count)
def M_X8_court : Mth := (RX8, cX8_court, 2, (some .int), yX8_court)
def M_X8_cut : Mth := (RX8, cX8_cut, 2, (some .int), yX8_cut)
def M_X8_days : Mth := (RX8, cX8_days, 3, (some .int), yX8_days)
def M_X8_drop : Mth := (RX8, cX8_drop, 2, (some .int), yX8_drop)
def M_X8_fault : Mth := (RX8, cX8_fault, 1, (some .int), yX8_fault)
def M_X8_feed : Mth := (RX8, cX8_feed, 2, (some .int), yX8_feed)
def M_X8_figure : Mth := (RX8, cX8_figure, 3, (some .int), yX8_figure)
def M_X8_forge : Mth := (RX8, cX8_forge, 5, (some .int), yX8_forge)
def M_X8_found : Mth := (RX8, cX8_found, 2, (some .int), yX8_found)
def M_X8_frees : Mth := (RX8, cX8_frees, 4, (some .int), yX8_frees)
def M_X8_goes : Mth := (RX8, cX8_goes, 3, none, yX8_goes)
def M_X8_has : Mth := (RX8, cX8_has, 2, (some .boolean), yX8_has)
def M_X8_image : Mth := (RX8, cX8_image, 2, (some .int), yX8_image)
def M_X8_in : Mth := (RX8, cX8_in, 3, (some .boolean), yX8_in)
def M_X8_init : Mth := (RX8, cX8_init, 2, none, yX8_init)
def M_X8_isBefore : Mth := (RX8, cX8_isBefore, 7, (some .boolean), yX8_isBefore)
def M_X8_isCourt : Mth := (RX8, cX8_isCourt, 1, (some .boolean), yX8_isCourt)
def M_X8_isLast : Mth := (RX8, cX8_isLast, 5, (some .boolean), yX8_isLast)
def M_X8_isLost : Mth := (RX8, cX8_isLost, 4, (some .boolean), yX8_isLost)
def M_X8_isMissing : Mth := (RX8, cX8_isMissing, 2, (some .boolean), yX8_isMissing)
def M_X8_isName : Mth := (RX8, cX8_isName, 1, (some .boolean), yX8_isName)
def M_X8_isPart : Mth := (RX8, cX8_isPart, 4, (some .boolean), yX8_isPart)
def M_X8_isPerson : Mth := (RX8, cX8_isPerson, 2, (some .boolean), yX8_isPerson)
def M_X8_isPlaceOf : Mth := (RX8, cX8_isPlaceOf, 3, (some .boolean), yX8_isPlaceOf)
def M_X8_isRow : Mth := (RX8, cX8_isRow, 1, (some .boolean), yX8_isRow)
def M_X8_isWell : Mth := (RX8, cX8_isWell, 1, (some .boolean), yX8_isWell)
def M_X8_kind : Mth := (RX8, cX8_kind, 2, (some .int), yX8_kind)
def M_X8_kindOf : Mth := (RX8, cX8_kindOf, 1, (some .int), yX8_kindOf)
def M_X8_last : Mth := (RX8, cX8_last, 7, (some .int), yX8_last)
def M_X8_lays : Mth := (RX8, cX8_lays, 7, (some .int), yX8_lays)
def M_X8_ledger : Mth := (RX8, cX8_ledger, 8, (some .int), yX8_ledger)
def M_X8_letterOf : Mth := (RX8, cX8_letterOf, 4, (some .int), yX8_letterOf)
def M_X8_lines : Mth := (RX8, cX8_lines, 6, (some .boolean), yX8_lines)
def M_X8_lose : Mth := (RX8, cX8_lose, 3, (some .int), yX8_lose)
def M_X8_manySo : Mth := (RX8, cX8_manySo, 4, (some .int), yX8_manySo)
def M_X8_name : Mth := (RX8, cX8_name, 3, (some .int), yX8_name)
def M_X8_nextBy : Mth := (RX8, cX8_nextBy, 4, (some .int), yX8_nextBy)
def M_X8_notes : Mth := (RX8, cX8_notes, 2, none, yX8_notes)
def M_X8_of : Mth := (RX8, cX8_of, 3, (some .int), yX8_of)
def M_X8_order : Mth := (RX8, cX8_order, 3, (some .int), yX8_order)
def M_X8_passedBy : Mth := (RX8, cX8_passedBy, 6, (some .int), yX8_passedBy)
def M_X8_passes : Mth := (RX8, cX8_passes, 4, none, yX8_passes)
def M_X8_person : Mth := (RX8, cX8_person, 3, (some .int), yX8_person)
def M_X8_plainMark : Mth := (RX8, cX8_plainMark, 4, (some .int), yX8_plainMark)
def M_X8_plainSize : Mth := (RX8, cX8_plainSize, 4, (some .int), yX8_plainSize)
def M_X8_power : Mth := (RX8, cX8_power, 4, (some .int), yX8_power)
def M_X8_rank : Mth := (RX8, cX8_rank, 5, (some .int), yX8_rank)
def M_X8_readsOrder : Mth := (RX8, cX8_readsOrder, 4, none, yX8_readsOrder)
def M_X8_readsPerson : Mth := (RX8, cX8_readsPerson, 6, none, yX8_readsPerson)
def M_X8_restore : Mth := (RX8, cX8_restore, 2, (some .int), yX8_restore)
def M_X8_row : Mth := (RX8, cX8_row, 5, (some .int), yX8_row)
def M_X8_saintMark : Mth := (RX8, cX8_saintMark, 2, (some .int), yX8_saintMark)
def M_X8_saintSize : Mth := (RX8, cX8_saintSize, 4, (some .int), yX8_saintSize)
def M_X8_seats : Mth := (RX8, cX8_seats, 3, none, yX8_seats)
def M_X8_set : Mth := (RX8, cX8_set, 4, (some .int), yX8_set)
def M_X8_status : Mth := (RX8, cX8_status, 1, (some .int), yX8_status)
def M_X8_takes : Mth := (RX8, cX8_takes, 4, (some .int), yX8_takes)
def M_X8_takes2 : Mth := (RX8, cX8_takes2, 2, none, yX8_takes2)
def M_X8_trace : Mth := (RX8, cX8_trace, 2, (some .int), yX8_trace)
def M_X8_undo : Mth := (RX8, cX8_undo, 1, (some .int), yX8_undo)
def M_X8_waited : Mth := (RX8, cX8_waited, 1, (some .int), yX8_waited)
def M_X8_waitedByLine : Mth := (RX8, cX8_waitedByLine, 4, (some .int), yX8_waitedByLine)
def M_X8_waitedTried : Mth := (RX8, cX8_waitedTried, 5, (some .int), yX8_waitedTried)
def M_X8_waits : Mth := (RX8, cX8_waits, 2, (some .boolean), yX8_waits)
def M_X8_warden : Mth := (RX8, cX8_warden, 8, (some .int), yX8_warden)
def M_X8_well : Mth := (RX8, cX8_well, 2, (some .int), yX8_well)
def M_X8_when : Mth := (RX8, cX8_when, 3, (some .int), yX8_when)
theorem kM_X0_forgetAll : Mv M_X0_forgetAll 0 := ⟨⟨tb1 (List.mem_of_getElem? (i := 4) (by decide +kernel)) rfl, tb2 (List.mem_of_getElem? (i := 174) (by decide +kernel)) rfl, rfl, ⟨by decide +kernel, by decide +kernel, by decide +kernel⟩, by decide +kernel, by decide +kernel⟩, tb2 (List.mem_of_getElem? (i := 172) (by decide +kernel)) rfl, tb2 (List.mem_of_getElem? (i := 173) (by decide +kernel)) rfl, by decide +kernel⟩
theorem kM_X0_keep : Mv M_X0_keep 4 := ⟨⟨tb1 (List.mem_of_getElem? (i := 4) (by decide +kernel)) rfl, tb3 (List.mem_of_getElem? (i := 13) (by decide +kernel)) rfl, rfl, ⟨by decide +kernel, by decide +kernel, by decide +kernel⟩, by decide +kernel, by decide +kernel⟩, tb3 (List.mem_of_getElem? (i := 12) (by decide +kernel)) rfl, tbs (q := (⟨"AlphaCourt$Acts", "keep", "(IIII)V"⟩, 6)) (List.mem_of_getElem? (i := 20) (by decide +kernel)), by decide +kernel⟩
theorem kM_X0_keepDay : Mv M_X0_keepDay 0 := ⟨⟨tb1 (List.mem_of_getElem? (i := 4) (by decide +kernel)) rfl, tb3 (List.mem_of_getElem? (i := 9) (by decide +kernel)) rfl, rfl, ⟨by decide +kernel, by decide +kernel, by decide +kernel⟩, by decide +kernel, by decide +kernel⟩, tb3 (List.mem_of_getElem? (i := 7) (by decide +kernel)) rfl, tb3 (List.mem_of_getElem? (i := 8) (by decide +kernel)) rfl, by decide +kernel⟩
theorem kM_X0_keepForged : Mv M_X0_keepForged 3 := ⟨⟨tb1 (List.mem_of_getElem? (i := 4) (by decide +kernel)) rfl, tb3 (List.mem_of_getElem? (i := 44) (by decide +kernel)) rfl, rfl, ⟨by decide +kernel, by decide +kernel, by decide +kernel⟩, by decide +kernel, by decide +kernel⟩, tb3 (List.mem_of_getElem? (i := 42) (by decide +kernel)) rfl, tb3 (List.mem_of_getElem? (i := 43) (by decide +kernel)) rfl, by decide +kernel⟩
theorem kM_X0_keepLost : Mv M_X0_keepLost 1 := ⟨⟨tb1 (List.mem_of_getElem? (i := 4) (by decide +kernel)) rfl, tb3 (List.mem_of_getElem? (i := 52) (by decide +kernel)) rfl, rfl, ⟨by decide +kernel, by decide +kernel, by decide +kernel⟩, by decide +kernel, by decide +kernel⟩, tb3 (List.mem_of_getElem? (i := 50) (by decide +kernel)) rfl, tb3 (List.mem_of_getElem? (i := 51) (by decide +kernel)) rfl, by decide +kernel⟩
theorem kM_X0_latestPlace : Mv M_X0_latestPlace 0 := ⟨⟨tb1 (List.mem_of_getElem? (i := 4) (by decide +kernel)) rfl, tb3 (List.mem_of_getElem? (i := 17) (by decide +kernel)) rfl, rfl, ⟨by decide +kernel, by decide +kernel, by decide +kernel⟩, by decide +kernel, by decide +kernel⟩, tb3 (List.mem_of_getElem? (i := 16) (by decide +kernel)) rfl, tbs (q := (⟨"AlphaCourt$Acts", "latestPlace", "()I"⟩, 6)) (List.mem_of_getElem? (i := 21) (by decide +kernel)), by decide +kernel⟩
theorem kM_X0_takeBack : Mv M_X0_takeBack 1 := ⟨⟨tb1 (List.mem_of_getElem? (i := 4) (by decide +kernel)) rfl, tb3 (List.mem_of_getElem? (i := 60) (by decide +kernel)) rfl, rfl, ⟨by decide +kernel, by decide +kernel, by decide +kernel⟩, by decide +kernel, by decide +kernel⟩, tb3 (List.mem_of_getElem? (i := 58) (by decide +kernel)) rfl, tb3 (List.mem_of_getElem? (i := 59) (by decide +kernel)) rfl, by decide +kernel⟩
theorem kM_X1_answer : Mv M_X1_answer 3 := ⟨⟨tb1 (List.mem_of_getElem? (i := 7) (by decide +kernel)) rfl, tb3 (List.mem_of_getElem? (i := 209) (by decide +kernel)) rfl, rfl, ⟨by decide +kernel, by decide +kernel, by decide +kernel⟩, by decide +kernel, by decide +kernel⟩, tb3 (List.mem_of_getElem? (i := 207) (by decide +kernel)) rfl, tb3 (List.mem_of_getElem? (i := 208) (by decide +kernel)) rfl, by decide +kernel⟩
theorem kM_X1_give : Ms M_X1_give 5 := ⟨⟨tb1 (List.mem_of_getElem? (i := 7) (by decide +kernel)) rfl, tb3 (List.mem_of_getElem? (i := 216) (by decide +kernel)) rfl, rfl, ⟨by decide +kernel, by decide +kernel, by decide +kernel⟩, by decide +kernel, by decide +kernel⟩, tb3 (List.mem_of_getElem? (i := 215) (by decide +kernel)) rfl, by decide +kernel⟩
theorem kM_X1_leave : Mv M_X1_leave 1 := ⟨⟨tb1 (List.mem_of_getElem? (i := 7) (by decide +kernel)) rfl, tb3 (List.mem_of_getElem? (i := 220) (by decide +kernel)) rfl, rfl, ⟨by decide +kernel, by decide +kernel, by decide +kernel⟩, by decide +kernel, by decide +kernel⟩, tb3 (List.mem_of_getElem? (i := 219) (by decide +kernel)) rfl, tbs (q := (⟨"AlphaCourt$Asks", "leave", "(I)V"⟩, 2)) (List.mem_of_getElem? (i := 30) (by decide +kernel)), by decide +kernel⟩
theorem kM_X2_begin : Mv M_X2_begin 0 := ⟨⟨tb1 (List.mem_of_getElem? (i := 3) (by decide +kernel)) rfl, tb2 (List.mem_of_getElem? (i := 107) (by decide +kernel)) rfl, rfl, ⟨by decide +kernel, by decide +kernel, by decide +kernel⟩, by decide +kernel, by decide +kernel⟩, tb2 (List.mem_of_getElem? (i := 105) (by decide +kernel)) rfl, tb2 (List.mem_of_getElem? (i := 106) (by decide +kernel)) rfl, by decide +kernel⟩
theorem kM_X2_compareNames : Mv M_X2_compareNames 3 := ⟨⟨tb1 (List.mem_of_getElem? (i := 3) (by decide +kernel)) rfl, tb2 (List.mem_of_getElem? (i := 237) (by decide +kernel)) rfl, rfl, ⟨by decide +kernel, by decide +kernel, by decide +kernel⟩, by decide +kernel, by decide +kernel⟩, tb2 (List.mem_of_getElem? (i := 236) (by decide +kernel)) rfl, tbs (q := (⟨"AlphaCourt$Court", "compareNames", "(III)I"⟩, 16)) (List.mem_of_getElem? (i := 17) (by decide +kernel)), by decide +kernel⟩
theorem kM_X2_firstOn : Mv M_X2_firstOn 2 := ⟨⟨tb1 (List.mem_of_getElem? (i := 3) (by decide +kernel)) rfl, tb2 (List.mem_of_getElem? (i := 211) (by decide +kernel)) rfl, rfl, ⟨by decide +kernel, by decide +kernel, by decide +kernel⟩, by decide +kernel, by decide +kernel⟩, tb2 (List.mem_of_getElem? (i := 210) (by decide +kernel)) rfl, tbs (q := (⟨"AlphaCourt$Court", "firstOn", "(II)I"⟩, 16)) (List.mem_of_getElem? (i := 16) (by decide +kernel)), by decide +kernel⟩
theorem kM_X2_freeDay : Mv M_X2_freeDay 1 := ⟨⟨tb1 (List.mem_of_getElem? (i := 3) (by decide +kernel)) rfl, tb2 (List.mem_of_getElem? (i := 204) (by decide +kernel)) rfl, rfl, ⟨by decide +kernel, by decide +kernel, by decide +kernel⟩, by decide +kernel, by decide +kernel⟩, tb2 (List.mem_of_getElem? (i := 202) (by decide +kernel)) rfl, tb2 (List.mem_of_getElem? (i := 203) (by decide +kernel)) rfl, by decide +kernel⟩
theorem kM_X2_howMany : Mv M_X2_howMany 1 := ⟨⟨tb1 (List.mem_of_getElem? (i := 3) (by decide +kernel)) rfl, tb3 (List.mem_of_getElem? (i := 21) (by decide +kernel)) rfl, rfl, ⟨by decide +kernel, by decide +kernel, by decide +kernel⟩, by decide +kernel, by decide +kernel⟩, tb3 (List.mem_of_getElem? (i := 19) (by decide +kernel)) rfl, tb3 (List.mem_of_getElem? (i := 20) (by decide +kernel)) rfl, by decide +kernel⟩
theorem kM_X2_howManyBefore : Mv M_X2_howManyBefore 1 := ⟨⟨tb1 (List.mem_of_getElem? (i := 3) (by decide +kernel)) rfl, tb3 (List.mem_of_getElem? (i := 75) (by decide +kernel)) rfl, rfl, ⟨by decide +kernel, by decide +kernel, by decide +kernel⟩, by decide +kernel, by decide +kernel⟩, tb3 (List.mem_of_getElem? (i := 73) (by decide +kernel)) rfl, tb3 (List.mem_of_getElem? (i := 74) (by decide +kernel)) rfl, by decide +kernel⟩
theorem kM_X2_howManyWaitWith : Mv M_X2_howManyWaitWith 1 := ⟨⟨tb1 (List.mem_of_getElem? (i := 3) (by decide +kernel)) rfl, tb3 (List.mem_of_getElem? (i := 168) (by decide +kernel)) rfl, rfl, ⟨by decide +kernel, by decide +kernel, by decide +kernel⟩, by decide +kernel, by decide +kernel⟩, tb3 (List.mem_of_getElem? (i := 166) (by decide +kernel)) rfl, tb3 (List.mem_of_getElem? (i := 167) (by decide +kernel)) rfl, by decide +kernel⟩
theorem kM_X2_isBefore : Mv M_X2_isBefore 3 := ⟨⟨tb1 (List.mem_of_getElem? (i := 3) (by decide +kernel)) rfl, tb2 (List.mem_of_getElem? (i := 231) (by decide +kernel)) rfl, rfl, ⟨by decide +kernel, by decide +kernel, by decide +kernel⟩, by decide +kernel, by decide +kernel⟩, tb2 (List.mem_of_getElem? (i := 229) (by decide +kernel)) rfl, tb2 (List.mem_of_getElem? (i := 230) (by decide +kernel)) rfl, by decide +kernel⟩
theorem kM_X2_isSeated : Mv M_X2_isSeated 1 := ⟨⟨tb1 (List.mem_of_getElem? (i := 3) (by decide +kernel)) rfl, tb2 (List.mem_of_getElem? (i := 200) (by decide +kernel)) rfl, rfl, ⟨by decide +kernel, by decide +kernel, by decide +kernel⟩, by decide +kernel, by decide +kernel⟩, tb2 (List.mem_of_getElem? (i := 198) (by decide +kernel)) rfl, tb2 (List.mem_of_getElem? (i := 199) (by decide +kernel)) rfl, by decide +kernel⟩
theorem kM_X2_lastWaitingBut : Mv M_X2_lastWaitingBut 2 := ⟨⟨tb1 (List.mem_of_getElem? (i := 3) (by decide +kernel)) rfl, tb3 (List.mem_of_getElem? (i := 120) (by decide +kernel)) rfl, rfl, ⟨by decide +kernel, by decide +kernel, by decide +kernel⟩, by decide +kernel, by decide +kernel⟩, tb3 (List.mem_of_getElem? (i := 118) (by decide +kernel)) rfl, tb3 (List.mem_of_getElem? (i := 119) (by decide +kernel)) rfl, by decide +kernel⟩
theorem kM_X2_letterAsRead : Mv M_X2_letterAsRead 2 := ⟨⟨tb1 (List.mem_of_getElem? (i := 3) (by decide +kernel)) rfl, tb3 (List.mem_of_getElem? (i := 1) (by decide +kernel)) rfl, rfl, ⟨by decide +kernel, by decide +kernel, by decide +kernel⟩, by decide +kernel, by decide +kernel⟩, tb3 (List.mem_of_getElem? (i := 0) (by decide +kernel)) rfl, tbs (q := (⟨"AlphaCourt$Court", "letterAsRead", "(II)I"⟩, 16)) (List.mem_of_getElem? (i := 18) (by decide +kernel)), by decide +kernel⟩
theorem kM_X2_letterInOrder : Mv M_X2_letterInOrder 2 := ⟨⟨tb1 (List.mem_of_getElem? (i := 3) (by decide +kernel)) rfl, tb3 (List.mem_of_getElem? (i := 89) (by decide +kernel)) rfl, rfl, ⟨by decide +kernel, by decide +kernel, by decide +kernel⟩, by decide +kernel, by decide +kernel⟩, tb3 (List.mem_of_getElem? (i := 87) (by decide +kernel)) rfl, tb3 (List.mem_of_getElem? (i := 88) (by decide +kernel)) rfl, by decide +kernel⟩
theorem kM_X2_letterOf : Mv M_X2_letterOf 2 := ⟨⟨tb1 (List.mem_of_getElem? (i := 3) (by decide +kernel)) rfl, tb2 (List.mem_of_getElem? (i := 227) (by decide +kernel)) rfl, rfl, ⟨by decide +kernel, by decide +kernel, by decide +kernel⟩, by decide +kernel, by decide +kernel⟩, tb2 (List.mem_of_getElem? (i := 225) (by decide +kernel)) rfl, tb2 (List.mem_of_getElem? (i := 226) (by decide +kernel)) rfl, by decide +kernel⟩
theorem kM_X2_lettersAsBits : Mv M_X2_lettersAsBits 1 := ⟨⟨tb1 (List.mem_of_getElem? (i := 3) (by decide +kernel)) rfl, tb2 (List.mem_of_getElem? (i := 223) (by decide +kernel)) rfl, rfl, ⟨by decide +kernel, by decide +kernel, by decide +kernel⟩, by decide +kernel, by decide +kernel⟩, tb2 (List.mem_of_getElem? (i := 221) (by decide +kernel)) rfl, tb2 (List.mem_of_getElem? (i := 222) (by decide +kernel)) rfl, by decide +kernel⟩
theorem kM_X2_openDay : Mv M_X2_openDay 1 := ⟨⟨tb1 (List.mem_of_getElem? (i := 3) (by decide +kernel)) rfl, tb2 (List.mem_of_getElem? (i := 191) (by decide +kernel)) rfl, rfl, ⟨by decide +kernel, by decide +kernel, by decide +kernel⟩, by decide +kernel, by decide +kernel⟩, tb2 (List.mem_of_getElem? (i := 190) (by decide +kernel)) rfl, tbs (q := (⟨"AlphaCourt$Court", "openDay", "(I)I"⟩, 16)) (List.mem_of_getElem? (i := 14) (by decide +kernel)), by decide +kernel⟩
theorem kM_X2_placeInOrder : Mv M_X2_placeInOrder 2 := ⟨⟨tb1 (List.mem_of_getElem? (i := 3) (by decide +kernel)) rfl, tb3 (List.mem_of_getElem? (i := 5) (by decide +kernel)) rfl, rfl, ⟨by decide +kernel, by decide +kernel, by decide +kernel⟩, by decide +kernel, by decide +kernel⟩, tb3 (List.mem_of_getElem? (i := 4) (by decide +kernel)) rfl, tbs (q := (⟨"AlphaCourt$Court", "placeInOrder", "(II)I"⟩, 16)) (List.mem_of_getElem? (i := 19) (by decide +kernel)), by decide +kernel⟩
theorem kM_X2_putLetter : Mv M_X2_putLetter 3 := ⟨⟨tb1 (List.mem_of_getElem? (i := 3) (by decide +kernel)) rfl, tb2 (List.mem_of_getElem? (i := 164) (by decide +kernel)) rfl, rfl, ⟨by decide +kernel, by decide +kernel, by decide +kernel⟩, by decide +kernel, by decide +kernel⟩, tb2 (List.mem_of_getElem? (i := 162) (by decide +kernel)) rfl, tb2 (List.mem_of_getElem? (i := 163) (by decide +kernel)) rfl, by decide +kernel⟩
theorem kM_X2_seatTill : Mv M_X2_seatTill 2 := ⟨⟨tb1 (List.mem_of_getElem? (i := 3) (by decide +kernel)) rfl, tb2 (List.mem_of_getElem? (i := 187) (by decide +kernel)) rfl, rfl, ⟨by decide +kernel, by decide +kernel, by decide +kernel⟩, by decide +kernel, by decide +kernel⟩, tb2 (List.mem_of_getElem? (i := 185) (by decide +kernel)) rfl, tb2 (List.mem_of_getElem? (i := 186) (by decide +kernel)) rfl, by decide +kernel⟩
theorem kM_X2_servesOn : Mv M_X2_servesOn 2 := ⟨⟨tb1 (List.mem_of_getElem? (i := 3) (by decide +kernel)) rfl, tb2 (List.mem_of_getElem? (i := 196) (by decide +kernel)) rfl, rfl, ⟨by decide +kernel, by decide +kernel, by decide +kernel⟩, by decide +kernel, by decide +kernel⟩, tb2 (List.mem_of_getElem? (i := 195) (by decide +kernel)) rfl, tbs (q := (⟨"AlphaCourt$Court", "servesOn", "(II)Z"⟩, 16)) (List.mem_of_getElem? (i := 15) (by decide +kernel)), by decide +kernel⟩
theorem kM_X2_stateOf : Mv M_X2_stateOf 1 := ⟨⟨tb1 (List.mem_of_getElem? (i := 3) (by decide +kernel)) rfl, tb3 (List.mem_of_getElem? (i := 25) (by decide +kernel)) rfl, rfl, ⟨by decide +kernel, by decide +kernel, by decide +kernel⟩, by decide +kernel, by decide +kernel⟩, tb3 (List.mem_of_getElem? (i := 23) (by decide +kernel)) rfl, tb3 (List.mem_of_getElem? (i := 24) (by decide +kernel)) rfl, by decide +kernel⟩
theorem kM_X2_takeBackDay : Mv M_X2_takeBackDay 0 := ⟨⟨tb1 (List.mem_of_getElem? (i := 3) (by decide +kernel)) rfl, tb3 (List.mem_of_getElem? (i := 64) (by decide +kernel)) rfl, rfl, ⟨by decide +kernel, by decide +kernel, by decide +kernel⟩, by decide +kernel, by decide +kernel⟩, tb3 (List.mem_of_getElem? (i := 62) (by decide +kernel)) rfl, tb3 (List.mem_of_getElem? (i := 63) (by decide +kernel)) rfl, by decide +kernel⟩
theorem kM_X2_takeFrom : Mv M_X2_takeFrom 1 := ⟨⟨tb1 (List.mem_of_getElem? (i := 3) (by decide +kernel)) rfl, tb2 (List.mem_of_getElem? (i := 169) (by decide +kernel)) rfl, rfl, ⟨by decide +kernel, by decide +kernel, by decide +kernel⟩, by decide +kernel, by decide +kernel⟩, tb2 (List.mem_of_getElem? (i := 167) (by decide +kernel)) rfl, tb2 (List.mem_of_getElem? (i := 168) (by decide +kernel)) rfl, by decide +kernel⟩
theorem kM_X2_tellOrder : Mv M_X2_tellOrder 2 := ⟨⟨tb1 (List.mem_of_getElem? (i := 3) (by decide +kernel)) rfl, tb2 (List.mem_of_getElem? (i := 152) (by decide +kernel)) rfl, rfl, ⟨by decide +kernel, by decide +kernel, by decide +kernel⟩, by decide +kernel, by decide +kernel⟩, tb2 (List.mem_of_getElem? (i := 150) (by decide +kernel)) rfl, tb2 (List.mem_of_getElem? (i := 151) (by decide +kernel)) rfl, by decide +kernel⟩
theorem kM_X2_turnOn : Mv M_X2_turnOn 2 := ⟨⟨tb1 (List.mem_of_getElem? (i := 3) (by decide +kernel)) rfl, tb2 (List.mem_of_getElem? (i := 215) (by decide +kernel)) rfl, rfl, ⟨by decide +kernel, by decide +kernel, by decide +kernel⟩, by decide +kernel, by decide +kernel⟩, tb2 (List.mem_of_getElem? (i := 213) (by decide +kernel)) rfl, tb2 (List.mem_of_getElem? (i := 214) (by decide +kernel)) rfl, by decide +kernel⟩
theorem kM_X2_waitedByAll : Mv M_X2_waitedByAll 0 := ⟨⟨tb1 (List.mem_of_getElem? (i := 3) (by decide +kernel)) rfl, tb3 (List.mem_of_getElem? (i := 106) (by decide +kernel)) rfl, rfl, ⟨by decide +kernel, by decide +kernel, by decide +kernel⟩, by decide +kernel, by decide +kernel⟩, tb3 (List.mem_of_getElem? (i := 104) (by decide +kernel)) rfl, tb3 (List.mem_of_getElem? (i := 105) (by decide +kernel)) rfl, by decide +kernel⟩
theorem kM_X2_waitsOn : Mv M_X2_waitsOn 2 := ⟨⟨tb1 (List.mem_of_getElem? (i := 3) (by decide +kernel)) rfl, tb2 (List.mem_of_getElem? (i := 219) (by decide +kernel)) rfl, rfl, ⟨by decide +kernel, by decide +kernel, by decide +kernel⟩, by decide +kernel, by decide +kernel⟩, tb2 (List.mem_of_getElem? (i := 217) (by decide +kernel)) rfl, tb2 (List.mem_of_getElem? (i := 218) (by decide +kernel)) rfl, by decide +kernel⟩
theorem kM_X3_firstOpenSeat : Mv M_X3_firstOpenSeat 0 := ⟨⟨tb1 (List.mem_of_getElem? (i := 6) (by decide +kernel)) rfl, tb3 (List.mem_of_getElem? (i := 160) (by decide +kernel)) rfl, rfl, ⟨by decide +kernel, by decide +kernel, by decide +kernel⟩, by decide +kernel, by decide +kernel⟩, tb3 (List.mem_of_getElem? (i := 159) (by decide +kernel)) rfl, tbs (q := (⟨"AlphaCourt$Planner", "firstOpenSeat", "()I"⟩, 6)) (List.mem_of_getElem? (i := 27) (by decide +kernel)), by decide +kernel⟩
theorem kM_X3_openSeats : Mv M_X3_openSeats 1 := ⟨⟨tb1 (List.mem_of_getElem? (i := 6) (by decide +kernel)) rfl, tb3 (List.mem_of_getElem? (i := 148) (by decide +kernel)) rfl, rfl, ⟨by decide +kernel, by decide +kernel, by decide +kernel⟩, by decide +kernel, by decide +kernel⟩, tb3 (List.mem_of_getElem? (i := 147) (by decide +kernel)) rfl, tbs (q := (⟨"AlphaCourt$Planner", "openSeats", "(LAlphaCourt$Court;)V"⟩, 6)) (List.mem_of_getElem? (i := 26) (by decide +kernel)), by decide +kernel⟩
theorem kM_X3_plan : Mv M_X3_plan 1 := ⟨⟨tb1 (List.mem_of_getElem? (i := 6) (by decide +kernel)) rfl, tb3 (List.mem_of_getElem? (i := 144) (by decide +kernel)) rfl, rfl, ⟨by decide +kernel, by decide +kernel, by decide +kernel⟩, by decide +kernel, by decide +kernel⟩, tb3 (List.mem_of_getElem? (i := 142) (by decide +kernel)) rfl, tb3 (List.mem_of_getElem? (i := 143) (by decide +kernel)) rfl, by decide +kernel⟩
theorem kM_X3_seatOneByOne : Ms M_X3_seatOneByOne 5 := ⟨⟨tb1 (List.mem_of_getElem? (i := 6) (by decide +kernel)) rfl, tb3 (List.mem_of_getElem? (i := 155) (by decide +kernel)) rfl, rfl, ⟨by decide +kernel, by decide +kernel, by decide +kernel⟩, by decide +kernel, by decide +kernel⟩, tb3 (List.mem_of_getElem? (i := 154) (by decide +kernel)) rfl, by decide +kernel⟩
theorem kM_X4_addByte : Mv M_X4_addByte 1 := ⟨⟨tb1 (List.mem_of_getElem? (i := 2) (by decide +kernel)) rfl, tb2 (List.mem_of_getElem? (i := 95) (by decide +kernel)) rfl, rfl, ⟨by decide +kernel, by decide +kernel, by decide +kernel⟩, by decide +kernel, by decide +kernel⟩, tb2 (List.mem_of_getElem? (i := 93) (by decide +kernel)) rfl, tb2 (List.mem_of_getElem? (i := 94) (by decide +kernel)) rfl, by decide +kernel⟩
theorem kM_X4_hasFault : Mv M_X4_hasFault 1 := ⟨⟨tb1 (List.mem_of_getElem? (i := 2) (by decide +kernel)) rfl, tb2 (List.mem_of_getElem? (i := 128) (by decide +kernel)) rfl, rfl, ⟨by decide +kernel, by decide +kernel, by decide +kernel⟩, by decide +kernel, by decide +kernel⟩, tb2 (List.mem_of_getElem? (i := 127) (by decide +kernel)) rfl, tbs (q := (⟨"AlphaCourt$Reader", "hasFault", "(I)Z"⟩, 8)) (List.mem_of_getElem? (i := 6) (by decide +kernel)), by decide +kernel⟩
theorem kM_X4_isFigureAt : Mv M_X4_isFigureAt 1 := ⟨⟨tb1 (List.mem_of_getElem? (i := 2) (by decide +kernel)) rfl, tb2 (List.mem_of_getElem? (i := 116) (by decide +kernel)) rfl, rfl, ⟨by decide +kernel, by decide +kernel, by decide +kernel⟩, by decide +kernel, by decide +kernel⟩, tb2 (List.mem_of_getElem? (i := 115) (by decide +kernel)) rfl, tbs (q := (⟨"AlphaCourt$Reader", "isFigureAt", "(I)Z"⟩, 8)) (List.mem_of_getElem? (i := 3) (by decide +kernel)), by decide +kernel⟩
theorem kM_X4_isLetter : Mv M_X4_isLetter 0 := ⟨⟨tb1 (List.mem_of_getElem? (i := 2) (by decide +kernel)) rfl, tb2 (List.mem_of_getElem? (i := 144) (by decide +kernel)) rfl, rfl, ⟨by decide +kernel, by decide +kernel, by decide +kernel⟩, by decide +kernel, by decide +kernel⟩, tb2 (List.mem_of_getElem? (i := 143) (by decide +kernel)) rfl, tbs (q := (⟨"AlphaCourt$Reader", "isLetter", "()Z"⟩, 8)) (List.mem_of_getElem? (i := 10) (by decide +kernel)), by decide +kernel⟩
theorem kM_X4_isNumberIn : Mv M_X4_isNumberIn 2 := ⟨⟨tb1 (List.mem_of_getElem? (i := 2) (by decide +kernel)) rfl, tb2 (List.mem_of_getElem? (i := 132) (by decide +kernel)) rfl, rfl, ⟨by decide +kernel, by decide +kernel, by decide +kernel⟩, by decide +kernel, by decide +kernel⟩, tb2 (List.mem_of_getElem? (i := 131) (by decide +kernel)) rfl, tbs (q := (⟨"AlphaCourt$Reader", "isNumberIn", "(II)Z"⟩, 8)) (List.mem_of_getElem? (i := 7) (by decide +kernel)), by decide +kernel⟩
theorem kM_X4_letterOfToken : Mv M_X4_letterOfToken 0 := ⟨⟨tb1 (List.mem_of_getElem? (i := 2) (by decide +kernel)) rfl, tb2 (List.mem_of_getElem? (i := 148) (by decide +kernel)) rfl, rfl, ⟨by decide +kernel, by decide +kernel, by decide +kernel⟩, by decide +kernel, by decide +kernel⟩, tb2 (List.mem_of_getElem? (i := 147) (by decide +kernel)) rfl, tbs (q := (⟨"AlphaCourt$Reader", "letterOfToken", "()I"⟩, 8)) (List.mem_of_getElem? (i := 11) (by decide +kernel)), by decide +kernel⟩
theorem kM_X4_passOver : Mv M_X4_passOver 1 := ⟨⟨tb1 (List.mem_of_getElem? (i := 2) (by decide +kernel)) rfl, tb2 (List.mem_of_getElem? (i := 124) (by decide +kernel)) rfl, rfl, ⟨by decide +kernel, by decide +kernel, by decide +kernel⟩, by decide +kernel, by decide +kernel⟩, tb2 (List.mem_of_getElem? (i := 123) (by decide +kernel)) rfl, tbs (q := (⟨"AlphaCourt$Reader", "passOver", "(I)Z"⟩, 8)) (List.mem_of_getElem? (i := 5) (by decide +kernel)), by decide +kernel⟩
theorem kM_X4_readInto : Mv M_X4_readInto 1 := ⟨⟨tb1 (List.mem_of_getElem? (i := 2) (by decide +kernel)) rfl, tb2 (List.mem_of_getElem? (i := 103) (by decide +kernel)) rfl, rfl, ⟨by decide +kernel, by decide +kernel, by decide +kernel⟩, by decide +kernel, by decide +kernel⟩, tb2 (List.mem_of_getElem? (i := 101) (by decide +kernel)) rfl, tb2 (List.mem_of_getElem? (i := 102) (by decide +kernel)) rfl, by decide +kernel⟩
theorem kM_X4_readLaw : Mv M_X4_readLaw 1 := ⟨⟨tb1 (List.mem_of_getElem? (i := 2) (by decide +kernel)) rfl, tb2 (List.mem_of_getElem? (i := 120) (by decide +kernel)) rfl, rfl, ⟨by decide +kernel, by decide +kernel, by decide +kernel⟩, by decide +kernel, by decide +kernel⟩, tb2 (List.mem_of_getElem? (i := 119) (by decide +kernel)) rfl, tbs (q := (⟨"AlphaCourt$Reader", "readLaw", "(LAlphaCourt$Court;)Z"⟩, 8)) (List.mem_of_getElem? (i := 4) (by decide +kernel)), by decide +kernel⟩
theorem kM_X4_readOrder : Mv M_X4_readOrder 1 := ⟨⟨tb1 (List.mem_of_getElem? (i := 2) (by decide +kernel)) rfl, tb2 (List.mem_of_getElem? (i := 140) (by decide +kernel)) rfl, rfl, ⟨by decide +kernel, by decide +kernel, by decide +kernel⟩, by decide +kernel, by decide +kernel⟩, tb2 (List.mem_of_getElem? (i := 139) (by decide +kernel)) rfl, tbs (q := (⟨"AlphaCourt$Reader", "readOrder", "(LAlphaCourt$Court;)Z"⟩, 8)) (List.mem_of_getElem? (i := 9) (by decide +kernel)), by decide +kernel⟩
theorem kM_X4_readPeople : Mv M_X4_readPeople 1 := ⟨⟨tb1 (List.mem_of_getElem? (i := 2) (by decide +kernel)) rfl, tb2 (List.mem_of_getElem? (i := 156) (by decide +kernel)) rfl, rfl, ⟨by decide +kernel, by decide +kernel, by decide +kernel⟩, by decide +kernel, by decide +kernel⟩, tb2 (List.mem_of_getElem? (i := 155) (by decide +kernel)) rfl, tbs (q := (⟨"AlphaCourt$Reader", "readPeople", "(LAlphaCourt$Court;)Z"⟩, 8)) (List.mem_of_getElem? (i := 12) (by decide +kernel)), by decide +kernel⟩
theorem kM_X4_readPerson : Mv M_X4_readPerson 2 := ⟨⟨tb1 (List.mem_of_getElem? (i := 2) (by decide +kernel)) rfl, tb2 (List.mem_of_getElem? (i := 160) (by decide +kernel)) rfl, rfl, ⟨by decide +kernel, by decide +kernel, by decide +kernel⟩, by decide +kernel, by decide +kernel⟩, tb2 (List.mem_of_getElem? (i := 159) (by decide +kernel)) rfl, tbs (q := (⟨"AlphaCourt$Reader", "readPerson", "(LAlphaCourt$Court;I)Z"⟩, 8)) (List.mem_of_getElem? (i := 13) (by decide +kernel)), by decide +kernel⟩
theorem kM_X4_step : Mv M_X4_step 0 := ⟨⟨tb1 (List.mem_of_getElem? (i := 2) (by decide +kernel)) rfl, tb2 (List.mem_of_getElem? (i := 112) (by decide +kernel)) rfl, rfl, ⟨by decide +kernel, by decide +kernel, by decide +kernel⟩, by decide +kernel, by decide +kernel⟩, tb2 (List.mem_of_getElem? (i := 111) (by decide +kernel)) rfl, tbs (q := (⟨"AlphaCourt$Reader", "step", "()V"⟩, 8)) (List.mem_of_getElem? (i := 2) (by decide +kernel)), by decide +kernel⟩
theorem kM_X4_takeNumber : Mv M_X4_takeNumber 0 := ⟨⟨tb1 (List.mem_of_getElem? (i := 2) (by decide +kernel)) rfl, tb2 (List.mem_of_getElem? (i := 136) (by decide +kernel)) rfl, rfl, ⟨by decide +kernel, by decide +kernel, by decide +kernel⟩, by decide +kernel, by decide +kernel⟩, tb2 (List.mem_of_getElem? (i := 135) (by decide +kernel)) rfl, tbs (q := (⟨"AlphaCourt$Reader", "takeNumber", "()I"⟩, 8)) (List.mem_of_getElem? (i := 8) (by decide +kernel)), by decide +kernel⟩
theorem kM_X5_canBeBehind : Mv M_X5_canBeBehind 3 := ⟨⟨tb1 (List.mem_of_getElem? (i := 5) (by decide +kernel)) rfl, tb3 (List.mem_of_getElem? (i := 124) (by decide +kernel)) rfl, rfl, ⟨by decide +kernel, by decide +kernel, by decide +kernel⟩, by decide +kernel, by decide +kernel⟩, tb3 (List.mem_of_getElem? (i := 123) (by decide +kernel)) rfl, tbs (q := (⟨"AlphaCourt$Renaming", "canBeBehind", "(III)Z"⟩, 1)) (List.mem_of_getElem? (i := 25) (by decide +kernel)), by decide +kernel⟩
theorem kM_X5_findFewest : Mv M_X5_findFewest 2 := ⟨⟨tb1 (List.mem_of_getElem? (i := 5) (by decide +kernel)) rfl, tb3 (List.mem_of_getElem? (i := 114) (by decide +kernel)) rfl, rfl, ⟨by decide +kernel, by decide +kernel, by decide +kernel⟩, by decide +kernel, by decide +kernel⟩, tb3 (List.mem_of_getElem? (i := 112) (by decide +kernel)) rfl, tb3 (List.mem_of_getElem? (i := 113) (by decide +kernel)) rfl, by decide +kernel⟩
theorem kM_X5_tryNames : Ms M_X5_tryNames 7 := ⟨⟨tb1 (List.mem_of_getElem? (i := 5) (by decide +kernel)) rfl, tb3 (List.mem_of_getElem? (i := 131) (by decide +kernel)) rfl, rfl, ⟨by decide +kernel, by decide +kernel, by decide +kernel⟩, by decide +kernel, by decide +kernel⟩, tb3 (List.mem_of_getElem? (i := 130) (by decide +kernel)) rfl, by decide +kernel⟩
theorem kM_X6_begin : Mv M_X6_begin 2 := ⟨⟨tb1 (List.mem_of_getElem? (i := 8) (by decide +kernel)) rfl, tb2 (List.mem_of_getElem? (i := 55) (by decide +kernel)) rfl, rfl, ⟨by decide +kernel, by decide +kernel, by decide +kernel⟩, by decide +kernel, by decide +kernel⟩, tb2 (List.mem_of_getElem? (i := 53) (by decide +kernel)) rfl, tb2 (List.mem_of_getElem? (i := 54) (by decide +kernel)) rfl, by decide +kernel⟩
theorem kM_X6_cut : Mv M_X6_cut 1 := ⟨⟨tb1 (List.mem_of_getElem? (i := 8) (by decide +kernel)) rfl, tb2 (List.mem_of_getElem? (i := 71) (by decide +kernel)) rfl, rfl, ⟨by decide +kernel, by decide +kernel, by decide +kernel⟩, by decide +kernel, by decide +kernel⟩, tb2 (List.mem_of_getElem? (i := 69) (by decide +kernel)) rfl, tb2 (List.mem_of_getElem? (i := 70) (by decide +kernel)) rfl, by decide +kernel⟩
theorem kM_X6_hasRange : Mv M_X6_hasRange 2 := ⟨⟨tb1 (List.mem_of_getElem? (i := 8) (by decide +kernel)) rfl, tb2 (List.mem_of_getElem? (i := 79) (by decide +kernel)) rfl, rfl, ⟨by decide +kernel, by decide +kernel, by decide +kernel⟩, by decide +kernel, by decide +kernel⟩, tb2 (List.mem_of_getElem? (i := 77) (by decide +kernel)) rfl, tb2 (List.mem_of_getElem? (i := 78) (by decide +kernel)) rfl, by decide +kernel⟩
theorem kM_X6_isMissing : Mv M_X6_isMissing 0 := ⟨⟨tb1 (List.mem_of_getElem? (i := 8) (by decide +kernel)) rfl, tb2 (List.mem_of_getElem? (i := 67) (by decide +kernel)) rfl, rfl, ⟨by decide +kernel, by decide +kernel, by decide +kernel⟩, by decide +kernel, by decide +kernel⟩, tb2 (List.mem_of_getElem? (i := 65) (by decide +kernel)) rfl, tb2 (List.mem_of_getElem? (i := 66) (by decide +kernel)) rfl, by decide +kernel⟩
theorem kM_X7_areAllPeople : Mv M_X7_areAllPeople 3 := ⟨⟨tb1 (List.mem_of_getElem? (i := 1) (by decide +kernel)) rfl, tb3 (List.mem_of_getElem? (i := 176) (by decide +kernel)) rfl, rfl, ⟨by decide +kernel, by decide +kernel, by decide +kernel⟩, by decide +kernel, by decide +kernel⟩, tb3 (List.mem_of_getElem? (i := 175) (by decide +kernel)) rfl, tbs (q := (⟨"AlphaCourt", "areAllPeople", "(LAlphaCourt$Row;II)Z"⟩, 11)) (List.mem_of_getElem? (i := 28) (by decide +kernel)), by decide +kernel⟩
theorem kM_X7_areSeatedNext : Mv M_X7_areSeatedNext 4 := ⟨⟨tb1 (List.mem_of_getElem? (i := 1) (by decide +kernel)) rfl, tb3 (List.mem_of_getElem? (i := 180) (by decide +kernel)) rfl, rfl, ⟨by decide +kernel, by decide +kernel, by decide +kernel⟩, by decide +kernel, by decide +kernel⟩, tb3 (List.mem_of_getElem? (i := 179) (by decide +kernel)) rfl, tbs (q := (⟨"AlphaCourt", "areSeatedNext", "(LAlphaCourt$Row;III)Z"⟩, 11)) (List.mem_of_getElem? (i := 29) (by decide +kernel)), by decide +kernel⟩
theorem kM_X7_as : Mv M_X7_as 2 := ⟨⟨tb1 (List.mem_of_getElem? (i := 1) (by decide +kernel)) rfl, tb3 (List.mem_of_getElem? (i := 196) (by decide +kernel)) rfl, rfl, ⟨by decide +kernel, by decide +kernel, by decide +kernel⟩, by decide +kernel, by decide +kernel⟩, tb3 (List.mem_of_getElem? (i := 194) (by decide +kernel)) rfl, tb3 (List.mem_of_getElem? (i := 195) (by decide +kernel)) rfl, by decide +kernel⟩
theorem kM_X7_ask : Mv M_X7_ask 2 := ⟨⟨tb1 (List.mem_of_getElem? (i := 1) (by decide +kernel)) rfl, tb3 (List.mem_of_getElem? (i := 205) (by decide +kernel)) rfl, rfl, ⟨by decide +kernel, by decide +kernel, by decide +kernel⟩, by decide +kernel, by decide +kernel⟩, tb3 (List.mem_of_getElem? (i := 203) (by decide +kernel)) rfl, tb3 (List.mem_of_getElem? (i := 204) (by decide +kernel)) rfl, by decide +kernel⟩
theorem kM_X7_best : Mv M_X7_best 1 := ⟨⟨tb1 (List.mem_of_getElem? (i := 1) (by decide +kernel)) rfl, tb3 (List.mem_of_getElem? (i := 136) (by decide +kernel)) rfl, rfl, ⟨by decide +kernel, by decide +kernel, by decide +kernel⟩, by decide +kernel, by decide +kernel⟩, tb3 (List.mem_of_getElem? (i := 134) (by decide +kernel)) rfl, tb3 (List.mem_of_getElem? (i := 135) (by decide +kernel)) rfl, by decide +kernel⟩
theorem kM_X7_copy : Mv M_X7_copy 5 := ⟨⟨tb1 (List.mem_of_getElem? (i := 1) (by decide +kernel)) rfl, tb2 (List.mem_of_getElem? (i := 75) (by decide +kernel)) rfl, rfl, ⟨by decide +kernel, by decide +kernel, by decide +kernel⟩, by decide +kernel, by decide +kernel⟩, tb2 (List.mem_of_getElem? (i := 73) (by decide +kernel)) rfl, tb2 (List.mem_of_getElem? (i := 74) (by decide +kernel)) rfl, by decide +kernel⟩
theorem kM_X7_count : Mv M_X7_count 1 := ⟨⟨tb1 (List.mem_of_getElem? (i := 1) (by decide +kernel)) rfl, tb3 (List.mem_of_getElem? (i := 228) (by decide +kernel)) rfl, rfl, ⟨by decide +kernel, by decide +kernel, by decide +kernel⟩, by decide +kernel, by decide +kernel⟩, tb3 (List.mem_of_getElem? (i := 226) (by decide +kernel)) rfl, tb3 (List.mem_of_getElem? (i := 227) (by decide +kernel)) rfl, by decide +kernel⟩
theorem kM_X7_court : Mv M_X7_court 0 := ⟨⟨tb1 (List.mem_of_getElem? (i := 1) (by decide +kernel)) rfl, tb2 (List.mem_of_getElem? (i := 99) (by decide +kernel)) rfl, rfl, ⟨by decide +kernel, by decide +kernel, by decide +kernel⟩, by decide +kernel, by decide +kernel⟩, tb2 (List.mem_of_getElem? (i := 97) (by decide +kernel)) rfl, tb2 (List.mem_of_getElem? (i := 98) (by decide +kernel)) rfl, by decide +kernel⟩
theorem kM_X7_days : Mv M_X7_days 1 := ⟨⟨tb1 (List.mem_of_getElem? (i := 1) (by decide +kernel)) rfl, tb2 (List.mem_of_getElem? (i := 182) (by decide +kernel)) rfl, rfl, ⟨by decide +kernel, by decide +kernel, by decide +kernel⟩, by decide +kernel, by decide +kernel⟩, tb2 (List.mem_of_getElem? (i := 180) (by decide +kernel)) rfl, tb2 (List.mem_of_getElem? (i := 181) (by decide +kernel)) rfl, by decide +kernel⟩
theorem kM_X7_drop : Mv M_X7_drop 1 := ⟨⟨tb1 (List.mem_of_getElem? (i := 1) (by decide +kernel)) rfl, tb2 (List.mem_of_getElem? (i := 86) (by decide +kernel)) rfl, rfl, ⟨by decide +kernel, by decide +kernel, by decide +kernel⟩, by decide +kernel, by decide +kernel⟩, tb2 (List.mem_of_getElem? (i := 84) (by decide +kernel)) rfl, tb2 (List.mem_of_getElem? (i := 85) (by decide +kernel)) rfl, by decide +kernel⟩
theorem kM_X7_fault : Mv M_X7_fault 0 := ⟨⟨tb1 (List.mem_of_getElem? (i := 1) (by decide +kernel)) rfl, tb2 (List.mem_of_getElem? (i := 178) (by decide +kernel)) rfl, rfl, ⟨by decide +kernel, by decide +kernel, by decide +kernel⟩, by decide +kernel, by decide +kernel⟩, tb2 (List.mem_of_getElem? (i := 176) (by decide +kernel)) rfl, tb2 (List.mem_of_getElem? (i := 177) (by decide +kernel)) rfl, by decide +kernel⟩
theorem kM_X7_feed : Mv M_X7_feed 1 := ⟨⟨tb1 (List.mem_of_getElem? (i := 1) (by decide +kernel)) rfl, tb2 (List.mem_of_getElem? (i := 90) (by decide +kernel)) rfl, rfl, ⟨by decide +kernel, by decide +kernel, by decide +kernel⟩, by decide +kernel, by decide +kernel⟩, tb2 (List.mem_of_getElem? (i := 88) (by decide +kernel)) rfl, tb2 (List.mem_of_getElem? (i := 89) (by decide +kernel)) rfl, by decide +kernel⟩
theorem kM_X7_foretell : Mv M_X7_foretell 1 := ⟨⟨tb1 (List.mem_of_getElem? (i := 1) (by decide +kernel)) rfl, tb3 (List.mem_of_getElem? (i := 97) (by decide +kernel)) rfl, rfl, ⟨by decide +kernel, by decide +kernel, by decide +kernel⟩, by decide +kernel, by decide +kernel⟩, tb3 (List.mem_of_getElem? (i := 96) (by decide +kernel)) rfl, tbs (q := (⟨"AlphaCourt", "foretell", "(I)LAlphaCourt$Court;"⟩, 11)) (List.mem_of_getElem? (i := 24) (by decide +kernel)), by decide +kernel⟩
theorem kM_X7_forge : Mv M_X7_forge 3 := ⟨⟨tb1 (List.mem_of_getElem? (i := 1) (by decide +kernel)) rfl, tb3 (List.mem_of_getElem? (i := 29) (by decide +kernel)) rfl, rfl, ⟨by decide +kernel, by decide +kernel, by decide +kernel⟩, by decide +kernel, by decide +kernel⟩, tb3 (List.mem_of_getElem? (i := 27) (by decide +kernel)) rfl, tb3 (List.mem_of_getElem? (i := 28) (by decide +kernel)) rfl, by decide +kernel⟩
theorem kM_X7_found : Mv M_X7_found 1 := ⟨⟨tb1 (List.mem_of_getElem? (i := 1) (by decide +kernel)) rfl, tb2 (List.mem_of_getElem? (i := 50) (by decide +kernel)) rfl, rfl, ⟨by decide +kernel, by decide +kernel, by decide +kernel⟩, by decide +kernel, by decide +kernel⟩, tb2 (List.mem_of_getElem? (i := 49) (by decide +kernel)) rfl, tbs (q := (⟨"AlphaCourt", "found", "(I)I"⟩, 11)) (List.mem_of_getElem? (i := 0) (by decide +kernel)), by decide +kernel⟩
theorem kM_X7_frees : Mv M_X7_frees 1 := ⟨⟨tb1 (List.mem_of_getElem? (i := 1) (by decide +kernel)) rfl, tb3 (List.mem_of_getElem? (i := 164) (by decide +kernel)) rfl, rfl, ⟨by decide +kernel, by decide +kernel, by decide +kernel⟩, by decide +kernel, by decide +kernel⟩, tb3 (List.mem_of_getElem? (i := 162) (by decide +kernel)) rfl, tb3 (List.mem_of_getElem? (i := 163) (by decide +kernel)) rfl, by decide +kernel⟩
theorem kM_X7_howManyRows : Mv M_X7_howManyRows 0 := ⟨⟨tb1 (List.mem_of_getElem? (i := 1) (by decide +kernel)) rfl, tb3 (List.mem_of_getElem? (i := 232) (by decide +kernel)) rfl, rfl, ⟨by decide +kernel, by decide +kernel, by decide +kernel⟩, by decide +kernel, by decide +kernel⟩, tb3 (List.mem_of_getElem? (i := 231) (by decide +kernel)) rfl, tbs (q := (⟨"AlphaCourt", "howManyRows", "()I"⟩, 11)) (List.mem_of_getElem? (i := 31) (by decide +kernel)), by decide +kernel⟩
theorem kM_X7_image : Mv M_X7_image 1 := ⟨⟨tb1 (List.mem_of_getElem? (i := 1) (by decide +kernel)) rfl, tb3 (List.mem_of_getElem? (i := 184) (by decide +kernel)) rfl, rfl, ⟨by decide +kernel, by decide +kernel, by decide +kernel⟩, by decide +kernel, by decide +kernel⟩, tb3 (List.mem_of_getElem? (i := 182) (by decide +kernel)) rfl, tb3 (List.mem_of_getElem? (i := 183) (by decide +kernel)) rfl, by decide +kernel⟩
theorem kM_X7_isIn : Ms M_X7_isIn 2 := ⟨⟨tb1 (List.mem_of_getElem? (i := 1) (by decide +kernel)) rfl, tb2 (List.mem_of_getElem? (i := 45) (by decide +kernel)) rfl, rfl, ⟨by decide +kernel, by decide +kernel, by decide +kernel⟩, by decide +kernel, by decide +kernel⟩, tb2 (List.mem_of_getElem? (i := 44) (by decide +kernel)) rfl, by decide +kernel⟩
theorem kM_X7_isOfKind : Ms M_X7_isOfKind 2 := ⟨⟨tb1 (List.mem_of_getElem? (i := 1) (by decide +kernel)) rfl, tb3 (List.mem_of_getElem? (i := 199) (by decide +kernel)) rfl, rfl, ⟨by decide +kernel, by decide +kernel, by decide +kernel⟩, by decide +kernel, by decide +kernel⟩, tb3 (List.mem_of_getElem? (i := 198) (by decide +kernel)) rfl, by decide +kernel⟩
theorem kM_X7_isPerson : Mv M_X7_isPerson 1 := ⟨⟨tb1 (List.mem_of_getElem? (i := 1) (by decide +kernel)) rfl, tb3 (List.mem_of_getElem? (i := 37) (by decide +kernel)) rfl, rfl, ⟨by decide +kernel, by decide +kernel, by decide +kernel⟩, by decide +kernel, by decide +kernel⟩, tb3 (List.mem_of_getElem? (i := 36) (by decide +kernel)) rfl, tbs (q := (⟨"AlphaCourt", "isPerson", "(I)Z"⟩, 11)) (List.mem_of_getElem? (i := 23) (by decide +kernel)), by decide +kernel⟩
theorem kM_X7_isPlaceOfName : Mv M_X7_isPlaceOfName 2 := ⟨⟨tb1 (List.mem_of_getElem? (i := 1) (by decide +kernel)) rfl, tb3 (List.mem_of_getElem? (i := 33) (by decide +kernel)) rfl, rfl, ⟨by decide +kernel, by decide +kernel, by decide +kernel⟩, by decide +kernel, by decide +kernel⟩, tb3 (List.mem_of_getElem? (i := 32) (by decide +kernel)) rfl, tbs (q := (⟨"AlphaCourt", "isPlaceOfName", "(II)Z"⟩, 11)) (List.mem_of_getElem? (i := 22) (by decide +kernel)), by decide +kernel⟩
theorem kM_X7_kind : Mv M_X7_kind 1 := ⟨⟨tb1 (List.mem_of_getElem? (i := 1) (by decide +kernel)) rfl, tb3 (List.mem_of_getElem? (i := 192) (by decide +kernel)) rfl, rfl, ⟨by decide +kernel, by decide +kernel, by decide +kernel⟩, by decide +kernel, by decide +kernel⟩, tb3 (List.mem_of_getElem? (i := 190) (by decide +kernel)) rfl, tb3 (List.mem_of_getElem? (i := 191) (by decide +kernel)) rfl, by decide +kernel⟩
theorem kM_X7_last : Mv M_X7_last 2 := ⟨⟨tb1 (List.mem_of_getElem? (i := 1) (by decide +kernel)) rfl, tb3 (List.mem_of_getElem? (i := 110) (by decide +kernel)) rfl, rfl, ⟨by decide +kernel, by decide +kernel, by decide +kernel⟩, by decide +kernel, by decide +kernel⟩, tb3 (List.mem_of_getElem? (i := 108) (by decide +kernel)) rfl, tb3 (List.mem_of_getElem? (i := 109) (by decide +kernel)) rfl, by decide +kernel⟩
theorem kM_X7_ledger : Mv M_X7_ledger 3 := ⟨⟨tb1 (List.mem_of_getElem? (i := 1) (by decide +kernel)) rfl, tb3 (List.mem_of_getElem? (i := 172) (by decide +kernel)) rfl, rfl, ⟨by decide +kernel, by decide +kernel, by decide +kernel⟩, by decide +kernel, by decide +kernel⟩, tb3 (List.mem_of_getElem? (i := 170) (by decide +kernel)) rfl, tb3 (List.mem_of_getElem? (i := 171) (by decide +kernel)) rfl, by decide +kernel⟩
theorem kM_X7_lose : Mv M_X7_lose 2 := ⟨⟨tb1 (List.mem_of_getElem? (i := 1) (by decide +kernel)) rfl, tb3 (List.mem_of_getElem? (i := 48) (by decide +kernel)) rfl, rfl, ⟨by decide +kernel, by decide +kernel, by decide +kernel⟩, by decide +kernel, by decide +kernel⟩, tb3 (List.mem_of_getElem? (i := 46) (by decide +kernel)) rfl, tb3 (List.mem_of_getElem? (i := 47) (by decide +kernel)) rfl, by decide +kernel⟩
theorem kM_X7_name : Mv M_X7_name 2 := ⟨⟨tb1 (List.mem_of_getElem? (i := 1) (by decide +kernel)) rfl, tb3 (List.mem_of_getElem? (i := 80) (by decide +kernel)) rfl, rfl, ⟨by decide +kernel, by decide +kernel, by decide +kernel⟩, by decide +kernel, by decide +kernel⟩, tb3 (List.mem_of_getElem? (i := 78) (by decide +kernel)) rfl, tb3 (List.mem_of_getElem? (i := 79) (by decide +kernel)) rfl, by decide +kernel⟩
theorem kM_X7_order : Mv M_X7_order 1 := ⟨⟨tb1 (List.mem_of_getElem? (i := 1) (by decide +kernel)) rfl, tb3 (List.mem_of_getElem? (i := 84) (by decide +kernel)) rfl, rfl, ⟨by decide +kernel, by decide +kernel, by decide +kernel⟩, by decide +kernel, by decide +kernel⟩, tb3 (List.mem_of_getElem? (i := 82) (by decide +kernel)) rfl, tb3 (List.mem_of_getElem? (i := 83) (by decide +kernel)) rfl, by decide +kernel⟩
theorem kM_X7_person : Mv M_X7_person 2 := ⟨⟨tb1 (List.mem_of_getElem? (i := 1) (by decide +kernel)) rfl, tb3 (List.mem_of_getElem? (i := 69) (by decide +kernel)) rfl, rfl, ⟨by decide +kernel, by decide +kernel, by decide +kernel⟩, by decide +kernel, by decide +kernel⟩, tb3 (List.mem_of_getElem? (i := 67) (by decide +kernel)) rfl, tb3 (List.mem_of_getElem? (i := 68) (by decide +kernel)) rfl, by decide +kernel⟩
theorem kM_X7_restore : Mv M_X7_restore 1 := ⟨⟨tb1 (List.mem_of_getElem? (i := 1) (by decide +kernel)) rfl, tb3 (List.mem_of_getElem? (i := 188) (by decide +kernel)) rfl, rfl, ⟨by decide +kernel, by decide +kernel, by decide +kernel⟩, by decide +kernel, by decide +kernel⟩, tb3 (List.mem_of_getElem? (i := 186) (by decide +kernel)) rfl, tb3 (List.mem_of_getElem? (i := 187) (by decide +kernel)) rfl, by decide +kernel⟩
theorem kM_X7_row : Mv M_X7_row 3 := ⟨⟨tb1 (List.mem_of_getElem? (i := 1) (by decide +kernel)) rfl, tb2 (List.mem_of_getElem? (i := 42) (by decide +kernel)) rfl, rfl, ⟨by decide +kernel, by decide +kernel, by decide +kernel⟩, by decide +kernel, by decide +kernel⟩, tb2 (List.mem_of_getElem? (i := 40) (by decide +kernel)) rfl, tb2 (List.mem_of_getElem? (i := 41) (by decide +kernel)) rfl, by decide +kernel⟩
theorem kM_X7_set : Mv M_X7_set 3 := ⟨⟨tb1 (List.mem_of_getElem? (i := 1) (by decide +kernel)) rfl, tb2 (List.mem_of_getElem? (i := 63) (by decide +kernel)) rfl, rfl, ⟨by decide +kernel, by decide +kernel, by decide +kernel⟩, by decide +kernel, by decide +kernel⟩, tb2 (List.mem_of_getElem? (i := 61) (by decide +kernel)) rfl, tb2 (List.mem_of_getElem? (i := 62) (by decide +kernel)) rfl, by decide +kernel⟩
theorem kM_X7_status : Mv M_X7_status 0 := ⟨⟨tb1 (List.mem_of_getElem? (i := 1) (by decide +kernel)) rfl, tb3 (List.mem_of_getElem? (i := 236) (by decide +kernel)) rfl, rfl, ⟨by decide +kernel, by decide +kernel, by decide +kernel⟩, by decide +kernel, by decide +kernel⟩, tb3 (List.mem_of_getElem? (i := 234) (by decide +kernel)) rfl, tb3 (List.mem_of_getElem? (i := 235) (by decide +kernel)) rfl, by decide +kernel⟩
theorem kM_X7_trace : Mv M_X7_trace 1 := ⟨⟨tb1 (List.mem_of_getElem? (i := 1) (by decide +kernel)) rfl, tb3 (List.mem_of_getElem? (i := 224) (by decide +kernel)) rfl, rfl, ⟨by decide +kernel, by decide +kernel, by decide +kernel⟩, by decide +kernel, by decide +kernel⟩, tb3 (List.mem_of_getElem? (i := 222) (by decide +kernel)) rfl, tb3 (List.mem_of_getElem? (i := 223) (by decide +kernel)) rfl, by decide +kernel⟩
theorem kM_X7_undo : Mv M_X7_undo 0 := ⟨⟨tb1 (List.mem_of_getElem? (i := 1) (by decide +kernel)) rfl, tb3 (List.mem_of_getElem? (i := 56) (by decide +kernel)) rfl, rfl, ⟨by decide +kernel, by decide +kernel, by decide +kernel⟩, by decide +kernel, by decide +kernel⟩, tb3 (List.mem_of_getElem? (i := 54) (by decide +kernel)) rfl, tb3 (List.mem_of_getElem? (i := 55) (by decide +kernel)) rfl, by decide +kernel⟩
theorem kM_X7_unfound : Mv M_X7_unfound 1 := ⟨⟨tb1 (List.mem_of_getElem? (i := 1) (by decide +kernel)) rfl, tb2 (List.mem_of_getElem? (i := 59) (by decide +kernel)) rfl, rfl, ⟨by decide +kernel, by decide +kernel, by decide +kernel⟩, by decide +kernel, by decide +kernel⟩, tb2 (List.mem_of_getElem? (i := 58) (by decide +kernel)) rfl, tbs (q := (⟨"AlphaCourt", "unfound", "(I)I"⟩, 11)) (List.mem_of_getElem? (i := 1) (by decide +kernel)), by decide +kernel⟩
theorem kM_X7_waited : Mv M_X7_waited 0 := ⟨⟨tb1 (List.mem_of_getElem? (i := 1) (by decide +kernel)) rfl, tb3 (List.mem_of_getElem? (i := 102) (by decide +kernel)) rfl, rfl, ⟨by decide +kernel, by decide +kernel, by decide +kernel⟩, by decide +kernel, by decide +kernel⟩, tb3 (List.mem_of_getElem? (i := 100) (by decide +kernel)) rfl, tb3 (List.mem_of_getElem? (i := 101) (by decide +kernel)) rfl, by decide +kernel⟩
theorem kM_X7_warden : Mv M_X7_warden 1 := ⟨⟨tb1 (List.mem_of_getElem? (i := 1) (by decide +kernel)) rfl, tb3 (List.mem_of_getElem? (i := 140) (by decide +kernel)) rfl, rfl, ⟨by decide +kernel, by decide +kernel, by decide +kernel⟩, by decide +kernel, by decide +kernel⟩, tb3 (List.mem_of_getElem? (i := 138) (by decide +kernel)) rfl, tb3 (List.mem_of_getElem? (i := 139) (by decide +kernel)) rfl, by decide +kernel⟩
theorem kM_X7_when : Mv M_X7_when 2 := ⟨⟨tb1 (List.mem_of_getElem? (i := 1) (by decide +kernel)) rfl, tb3 (List.mem_of_getElem? (i := 93) (by decide +kernel)) rfl, rfl, ⟨by decide +kernel, by decide +kernel, by decide +kernel⟩, by decide +kernel, by decide +kernel⟩, tb3 (List.mem_of_getElem? (i := 91) (by decide +kernel)) rfl, tb3 (List.mem_of_getElem? (i := 92) (by decide +kernel)) rfl, by decide +kernel⟩
theorem kM_X8_advances : Mv M_X8_advances 0 := ⟨⟨tb1 (List.mem_of_getElem? (i := 9) (by decide +kernel)) rfl, tb4 (List.mem_of_getElem? (i := 142) (by decide +kernel)) rfl, rfl, ⟨by decide +kernel, by decide +kernel, by decide +kernel⟩, by decide +kernel, by decide +kernel⟩, tb4 (List.mem_of_getElem? (i := 141) (by decide +kernel)) rfl, tbs (q := (⟨"AlphaCourtModel", "advances", "()V"⟩, 27)) (List.mem_of_getElem? (i := 36) (by decide +kernel)), by decide +kernel⟩
theorem kM_X8_ages : Ms M_X8_ages 1 := ⟨⟨tb1 (List.mem_of_getElem? (i := 9) (by decide +kernel)) rfl, tb4 (List.mem_of_getElem? (i := 208) (by decide +kernel)) rfl, rfl, ⟨by decide +kernel, by decide +kernel, by decide +kernel⟩, by decide +kernel, by decide +kernel⟩, tb4 (List.mem_of_getElem? (i := 207) (by decide +kernel)) rfl, by decide +kernel⟩
theorem kM_X8_as : Mv M_X8_as 2 := ⟨⟨tb1 (List.mem_of_getElem? (i := 9) (by decide +kernel)) rfl, tb5 (List.mem_of_getElem? (i := 110) (by decide +kernel)) rfl, rfl, ⟨by decide +kernel, by decide +kernel, by decide +kernel⟩, by decide +kernel, by decide +kernel⟩, tb5 (List.mem_of_getElem? (i := 108) (by decide +kernel)) rfl, tb5 (List.mem_of_getElem? (i := 109) (by decide +kernel)) rfl, by decide +kernel⟩
theorem kM_X8_ask : Mv M_X8_ask 2 := ⟨⟨tb1 (List.mem_of_getElem? (i := 9) (by decide +kernel)) rfl, tb5 (List.mem_of_getElem? (i := 114) (by decide +kernel)) rfl, rfl, ⟨by decide +kernel, by decide +kernel, by decide +kernel⟩, by decide +kernel, by decide +kernel⟩, tb5 (List.mem_of_getElem? (i := 112) (by decide +kernel)) rfl, tb5 (List.mem_of_getElem? (i := 113) (by decide +kernel)) rfl, by decide +kernel⟩
theorem kM_X8_beforeIt : Mv M_X8_beforeIt 1 := ⟨⟨tb1 (List.mem_of_getElem? (i := 9) (by decide +kernel)) rfl, tb5 (List.mem_of_getElem? (i := 26) (by decide +kernel)) rfl, rfl, ⟨by decide +kernel, by decide +kernel, by decide +kernel⟩, by decide +kernel, by decide +kernel⟩, tb5 (List.mem_of_getElem? (i := 25) (by decide +kernel)) rfl, tbs (q := (⟨"AlphaCourtModel", "beforeIt", "(I)I"⟩, 27)) (List.mem_of_getElem? (i := 50) (by decide +kernel)), by decide +kernel⟩
theorem kM_X8_begins : Mv M_X8_begins 1 := ⟨⟨tb1 (List.mem_of_getElem? (i := 9) (by decide +kernel)) rfl, tb5 (List.mem_of_getElem? (i := 122) (by decide +kernel)) rfl, rfl, ⟨by decide +kernel, by decide +kernel, by decide +kernel⟩, by decide +kernel, by decide +kernel⟩, tb5 (List.mem_of_getElem? (i := 121) (by decide +kernel)) rfl, tbs (q := (⟨"AlphaCourtModel", "begins", "(I)V"⟩, 27)) (List.mem_of_getElem? (i := 59) (by decide +kernel)), by decide +kernel⟩
theorem kM_X8_best : Mv M_X8_best 1 := ⟨⟨tb1 (List.mem_of_getElem? (i := 9) (by decide +kernel)) rfl, tb5 (List.mem_of_getElem? (i := 69) (by decide +kernel)) rfl, rfl, ⟨by decide +kernel, by decide +kernel, by decide +kernel⟩, by decide +kernel, by decide +kernel⟩, tb5 (List.mem_of_getElem? (i := 67) (by decide +kernel)) rfl, tb5 (List.mem_of_getElem? (i := 68) (by decide +kernel)) rfl, by decide +kernel⟩
theorem kM_X8_byteAt : Mv M_X8_byteAt 1 := ⟨⟨tb1 (List.mem_of_getElem? (i := 9) (by decide +kernel)) rfl, tb4 (List.mem_of_getElem? (i := 146) (by decide +kernel)) rfl, rfl, ⟨by decide +kernel, by decide +kernel, by decide +kernel⟩, by decide +kernel, by decide +kernel⟩, tb4 (List.mem_of_getElem? (i := 145) (by decide +kernel)) rfl, tbs (q := (⟨"AlphaCourtModel", "byteAt", "(I)I"⟩, 27)) (List.mem_of_getElem? (i := 37) (by decide +kernel)), by decide +kernel⟩
theorem kM_X8_classOf : Ms M_X8_classOf 2 := ⟨⟨tb1 (List.mem_of_getElem? (i := 9) (by decide +kernel)) rfl, tb4 (List.mem_of_getElem? (i := 226) (by decide +kernel)) rfl, rfl, ⟨by decide +kernel, by decide +kernel, by decide +kernel⟩, by decide +kernel, by decide +kernel⟩, tb4 (List.mem_of_getElem? (i := 225) (by decide +kernel)) rfl, by decide +kernel⟩
theorem kM_X8_copies : Ms M_X8_copies 4 := ⟨⟨tb1 (List.mem_of_getElem? (i := 9) (by decide +kernel)) rfl, tb4 (List.mem_of_getElem? (i := 184) (by decide +kernel)) rfl, rfl, ⟨by decide +kernel, by decide +kernel, by decide +kernel⟩, by decide +kernel, by decide +kernel⟩, tb4 (List.mem_of_getElem? (i := 183) (by decide +kernel)) rfl, by decide +kernel⟩
theorem kM_X8_copy : Mv M_X8_copy 5 := ⟨⟨tb1 (List.mem_of_getElem? (i := 9) (by decide +kernel)) rfl, tb4 (List.mem_of_getElem? (i := 121) (by decide +kernel)) rfl, rfl, ⟨by decide +kernel, by decide +kernel, by decide +kernel⟩, by decide +kernel, by decide +kernel⟩, tb4 (List.mem_of_getElem? (i := 119) (by decide +kernel)) rfl, tb4 (List.mem_of_getElem? (i := 120) (by decide +kernel)) rfl, by decide +kernel⟩
theorem kM_X8_count : Mv M_X8_count 1 := ⟨⟨tb1 (List.mem_of_getElem? (i := 9) (by decide +kernel)) rfl, tb5 (List.mem_of_getElem? (i := 142) (by decide +kernel)) rfl, rfl, ⟨by decide +kernel, by decide +kernel, by decide +kernel⟩, by decide +kernel, by decide +kernel⟩, tb5 (List.mem_of_getElem? (i := 140) (by decide +kernel)) rfl, tb5 (List.mem_of_getElem? (i := 141) (by decide +kernel)) rfl, by decide +kernel⟩
theorem kM_X8_court : Mv M_X8_court 0 := ⟨⟨tb1 (List.mem_of_getElem? (i := 9) (by decide +kernel)) rfl, tb4 (List.mem_of_getElem? (i := 138) (by decide +kernel)) rfl, rfl, ⟨by decide +kernel, by decide +kernel, by decide +kernel⟩, by decide +kernel, by decide +kernel⟩, tb4 (List.mem_of_getElem? (i := 136) (by decide +kernel)) rfl, tb4 (List.mem_of_getElem? (i := 137) (by decide +kernel)) rfl, by decide +kernel⟩
theorem kM_X8_cut : Ms M_X8_cut 2 := ⟨⟨tb1 (List.mem_of_getElem? (i := 9) (by decide +kernel)) rfl, tb4 (List.mem_of_getElem? (i := 117) (by decide +kernel)) rfl, rfl, ⟨by decide +kernel, by decide +kernel, by decide +kernel⟩, by decide +kernel, by decide +kernel⟩, tb4 (List.mem_of_getElem? (i := 116) (by decide +kernel)) rfl, by decide +kernel⟩
theorem kM_X8_days : Mv M_X8_days 1 := ⟨⟨tb1 (List.mem_of_getElem? (i := 9) (by decide +kernel)) rfl, tb4 (List.mem_of_getElem? (i := 192) (by decide +kernel)) rfl, rfl, ⟨by decide +kernel, by decide +kernel, by decide +kernel⟩, by decide +kernel, by decide +kernel⟩, tb4 (List.mem_of_getElem? (i := 190) (by decide +kernel)) rfl, tb4 (List.mem_of_getElem? (i := 191) (by decide +kernel)) rfl, by decide +kernel⟩
theorem kM_X8_drop : Mv M_X8_drop 1 := ⟨⟨tb1 (List.mem_of_getElem? (i := 9) (by decide +kernel)) rfl, tb4 (List.mem_of_getElem? (i := 129) (by decide +kernel)) rfl, rfl, ⟨by decide +kernel, by decide +kernel, by decide +kernel⟩, by decide +kernel, by decide +kernel⟩, tb4 (List.mem_of_getElem? (i := 127) (by decide +kernel)) rfl, tb4 (List.mem_of_getElem? (i := 128) (by decide +kernel)) rfl, by decide +kernel⟩
theorem kM_X8_fault : Mv M_X8_fault 0 := ⟨⟨tb1 (List.mem_of_getElem? (i := 9) (by decide +kernel)) rfl, tb4 (List.mem_of_getElem? (i := 188) (by decide +kernel)) rfl, rfl, ⟨by decide +kernel, by decide +kernel, by decide +kernel⟩, by decide +kernel, by decide +kernel⟩, tb4 (List.mem_of_getElem? (i := 186) (by decide +kernel)) rfl, tb4 (List.mem_of_getElem? (i := 187) (by decide +kernel)) rfl, by decide +kernel⟩
theorem kM_X8_feed : Mv M_X8_feed 1 := ⟨⟨tb1 (List.mem_of_getElem? (i := 9) (by decide +kernel)) rfl, tb4 (List.mem_of_getElem? (i := 133) (by decide +kernel)) rfl, rfl, ⟨by decide +kernel, by decide +kernel, by decide +kernel⟩, by decide +kernel, by decide +kernel⟩, tb4 (List.mem_of_getElem? (i := 131) (by decide +kernel)) rfl, tb4 (List.mem_of_getElem? (i := 132) (by decide +kernel)) rfl, by decide +kernel⟩
theorem kM_X8_figure : Mv M_X8_figure 2 := ⟨⟨tb1 (List.mem_of_getElem? (i := 9) (by decide +kernel)) rfl, tb4 (List.mem_of_getElem? (i := 158) (by decide +kernel)) rfl, rfl, ⟨by decide +kernel, by decide +kernel, by decide +kernel⟩, by decide +kernel, by decide +kernel⟩, tb4 (List.mem_of_getElem? (i := 157) (by decide +kernel)) rfl, tbs (q := (⟨"AlphaCourtModel", "figure", "(II)I"⟩, 27)) (List.mem_of_getElem? (i := 40) (by decide +kernel)), by decide +kernel⟩
theorem kM_X8_forge : Mv M_X8_forge 3 := ⟨⟨tb1 (List.mem_of_getElem? (i := 9) (by decide +kernel)) rfl, tb5 (List.mem_of_getElem? (i := 2) (by decide +kernel)) rfl, rfl, ⟨by decide +kernel, by decide +kernel, by decide +kernel⟩, by decide +kernel, by decide +kernel⟩, tb5 (List.mem_of_getElem? (i := 0) (by decide +kernel)) rfl, tb5 (List.mem_of_getElem? (i := 1) (by decide +kernel)) rfl, by decide +kernel⟩
theorem kM_X8_found : Mv M_X8_found 1 := ⟨⟨tb1 (List.mem_of_getElem? (i := 9) (by decide +kernel)) rfl, tb4 (List.mem_of_getElem? (i := 101) (by decide +kernel)) rfl, rfl, ⟨by decide +kernel, by decide +kernel, by decide +kernel⟩, by decide +kernel, by decide +kernel⟩, tb4 (List.mem_of_getElem? (i := 100) (by decide +kernel)) rfl, tbs (q := (⟨"AlphaCourtModel", "found", "(I)I"⟩, 27)) (List.mem_of_getElem? (i := 32) (by decide +kernel)), by decide +kernel⟩
theorem kM_X8_frees : Mv M_X8_frees 1 := ⟨⟨tb1 (List.mem_of_getElem? (i := 9) (by decide +kernel)) rfl, tb5 (List.mem_of_getElem? (i := 86) (by decide +kernel)) rfl, rfl, ⟨by decide +kernel, by decide +kernel, by decide +kernel⟩, by decide +kernel, by decide +kernel⟩, tb5 (List.mem_of_getElem? (i := 84) (by decide +kernel)) rfl, tb5 (List.mem_of_getElem? (i := 85) (by decide +kernel)) rfl, by decide +kernel⟩
theorem kM_X8_goes : Mv M_X8_goes 1 := ⟨⟨tb1 (List.mem_of_getElem? (i := 9) (by decide +kernel)) rfl, tb5 (List.mem_of_getElem? (i := 42) (by decide +kernel)) rfl, rfl, ⟨by decide +kernel, by decide +kernel, by decide +kernel⟩, by decide +kernel, by decide +kernel⟩, tb5 (List.mem_of_getElem? (i := 41) (by decide +kernel)) rfl, tbs (q := (⟨"AlphaCourtModel", "goes", "(I)V"⟩, 27)) (List.mem_of_getElem? (i := 51) (by decide +kernel)), by decide +kernel⟩
theorem kM_X8_has : Ms M_X8_has 2 := ⟨⟨tb1 (List.mem_of_getElem? (i := 9) (by decide +kernel)) rfl, tb4 (List.mem_of_getElem? (i := 169) (by decide +kernel)) rfl, rfl, ⟨by decide +kernel, by decide +kernel, by decide +kernel⟩, by decide +kernel, by decide +kernel⟩, tb4 (List.mem_of_getElem? (i := 168) (by decide +kernel)) rfl, by decide +kernel⟩
theorem kM_X8_image : Mv M_X8_image 1 := ⟨⟨tb1 (List.mem_of_getElem? (i := 9) (by decide +kernel)) rfl, tb5 (List.mem_of_getElem? (i := 98) (by decide +kernel)) rfl, rfl, ⟨by decide +kernel, by decide +kernel, by decide +kernel⟩, by decide +kernel, by decide +kernel⟩, tb5 (List.mem_of_getElem? (i := 96) (by decide +kernel)) rfl, tb5 (List.mem_of_getElem? (i := 97) (by decide +kernel)) rfl, by decide +kernel⟩
theorem kM_X8_in : Ms M_X8_in 3 := ⟨⟨tb1 (List.mem_of_getElem? (i := 9) (by decide +kernel)) rfl, tb4 (List.mem_of_getElem? (i := 96) (by decide +kernel)) rfl, rfl, ⟨by decide +kernel, by decide +kernel, by decide +kernel⟩, by decide +kernel, by decide +kernel⟩, tb4 (List.mem_of_getElem? (i := 95) (by decide +kernel)) rfl, by decide +kernel⟩
theorem kM_X8_isBefore : Ms M_X8_isBefore 4 := ⟨⟨tb1 (List.mem_of_getElem? (i := 9) (by decide +kernel)) rfl, tb4 (List.mem_of_getElem? (i := 223) (by decide +kernel)) rfl, rfl, ⟨by decide +kernel, by decide +kernel, by decide +kernel⟩, by decide +kernel, by decide +kernel⟩, tb4 (List.mem_of_getElem? (i := 222) (by decide +kernel)) rfl, by decide +kernel⟩
theorem kM_X8_isCourt : Mv M_X8_isCourt 0 := ⟨⟨tb1 (List.mem_of_getElem? (i := 9) (by decide +kernel)) rfl, tb4 (List.mem_of_getElem? (i := 196) (by decide +kernel)) rfl, rfl, ⟨by decide +kernel, by decide +kernel, by decide +kernel⟩, by decide +kernel, by decide +kernel⟩, tb4 (List.mem_of_getElem? (i := 195) (by decide +kernel)) rfl, tbs (q := (⟨"AlphaCourtModel", "isCourt", "()Z"⟩, 27)) (List.mem_of_getElem? (i := 45) (by decide +kernel)), by decide +kernel⟩
theorem kM_X8_isLast : Mv M_X8_isLast 2 := ⟨⟨tb1 (List.mem_of_getElem? (i := 9) (by decide +kernel)) rfl, tb5 (List.mem_of_getElem? (i := 65) (by decide +kernel)) rfl, rfl, ⟨by decide +kernel, by decide +kernel, by decide +kernel⟩, by decide +kernel, by decide +kernel⟩, tb5 (List.mem_of_getElem? (i := 64) (by decide +kernel)) rfl, tbs (q := (⟨"AlphaCourtModel", "isLast", "([II)Z"⟩, 27)) (List.mem_of_getElem? (i := 54) (by decide +kernel)), by decide +kernel⟩
theorem kM_X8_isLost : Ms M_X8_isLost 2 := ⟨⟨tb1 (List.mem_of_getElem? (i := 9) (by decide +kernel)) rfl, tb4 (List.mem_of_getElem? (i := 220) (by decide +kernel)) rfl, rfl, ⟨by decide +kernel, by decide +kernel, by decide +kernel⟩, by decide +kernel, by decide +kernel⟩, tb4 (List.mem_of_getElem? (i := 219) (by decide +kernel)) rfl, by decide +kernel⟩
theorem kM_X8_isMissing : Mv M_X8_isMissing 1 := ⟨⟨tb1 (List.mem_of_getElem? (i := 9) (by decide +kernel)) rfl, tb4 (List.mem_of_getElem? (i := 114) (by decide +kernel)) rfl, rfl, ⟨by decide +kernel, by decide +kernel, by decide +kernel⟩, by decide +kernel, by decide +kernel⟩, tb4 (List.mem_of_getElem? (i := 113) (by decide +kernel)) rfl, tbs (q := (⟨"AlphaCourtModel", "isMissing", "(I)Z"⟩, 27)) (List.mem_of_getElem? (i := 34) (by decide +kernel)), by decide +kernel⟩
theorem kM_X8_isName : Mv M_X8_isName 0 := ⟨⟨tb1 (List.mem_of_getElem? (i := 9) (by decide +kernel)) rfl, tb4 (List.mem_of_getElem? (i := 166) (by decide +kernel)) rfl, rfl, ⟨by decide +kernel, by decide +kernel, by decide +kernel⟩, by decide +kernel, by decide +kernel⟩, tb4 (List.mem_of_getElem? (i := 165) (by decide +kernel)) rfl, tbs (q := (⟨"AlphaCourtModel", "isName", "()Z"⟩, 27)) (List.mem_of_getElem? (i := 42) (by decide +kernel)), by decide +kernel⟩
theorem kM_X8_isPart : Mv M_X8_isPart 3 := ⟨⟨tb1 (List.mem_of_getElem? (i := 9) (by decide +kernel)) rfl, tb4 (List.mem_of_getElem? (i := 125) (by decide +kernel)) rfl, rfl, ⟨by decide +kernel, by decide +kernel, by decide +kernel⟩, by decide +kernel, by decide +kernel⟩, tb4 (List.mem_of_getElem? (i := 124) (by decide +kernel)) rfl, tbs (q := (⟨"AlphaCourtModel", "isPart", "(III)Z"⟩, 27)) (List.mem_of_getElem? (i := 35) (by decide +kernel)), by decide +kernel⟩
theorem kM_X8_isPerson : Mv M_X8_isPerson 1 := ⟨⟨tb1 (List.mem_of_getElem? (i := 9) (by decide +kernel)) rfl, tb5 (List.mem_of_getElem? (i := 10) (by decide +kernel)) rfl, rfl, ⟨by decide +kernel, by decide +kernel, by decide +kernel⟩, by decide +kernel, by decide +kernel⟩, tb5 (List.mem_of_getElem? (i := 9) (by decide +kernel)) rfl, tbs (q := (⟨"AlphaCourtModel", "isPerson", "(I)Z"⟩, 27)) (List.mem_of_getElem? (i := 49) (by decide +kernel)), by decide +kernel⟩
theorem kM_X8_isPlaceOf : Mv M_X8_isPlaceOf 2 := ⟨⟨tb1 (List.mem_of_getElem? (i := 9) (by decide +kernel)) rfl, tb5 (List.mem_of_getElem? (i := 6) (by decide +kernel)) rfl, rfl, ⟨by decide +kernel, by decide +kernel, by decide +kernel⟩, by decide +kernel, by decide +kernel⟩, tb5 (List.mem_of_getElem? (i := 5) (by decide +kernel)) rfl, tbs (q := (⟨"AlphaCourtModel", "isPlaceOf", "(II)Z"⟩, 27)) (List.mem_of_getElem? (i := 48) (by decide +kernel)), by decide +kernel⟩
theorem kM_X8_isRow : Ms M_X8_isRow 1 := ⟨⟨tb1 (List.mem_of_getElem? (i := 9) (by decide +kernel)) rfl, tb4 (List.mem_of_getElem? (i := 93) (by decide +kernel)) rfl, rfl, ⟨by decide +kernel, by decide +kernel, by decide +kernel⟩, by decide +kernel, by decide +kernel⟩, tb4 (List.mem_of_getElem? (i := 92) (by decide +kernel)) rfl, by decide +kernel⟩
theorem kM_X8_isWell : Mv M_X8_isWell 0 := ⟨⟨tb1 (List.mem_of_getElem? (i := 9) (by decide +kernel)) rfl, tb4 (List.mem_of_getElem? (i := 154) (by decide +kernel)) rfl, rfl, ⟨by decide +kernel, by decide +kernel, by decide +kernel⟩, by decide +kernel, by decide +kernel⟩, tb4 (List.mem_of_getElem? (i := 153) (by decide +kernel)) rfl, tbs (q := (⟨"AlphaCourtModel", "isWell", "()Z"⟩, 27)) (List.mem_of_getElem? (i := 39) (by decide +kernel)), by decide +kernel⟩
theorem kM_X8_kind : Mv M_X8_kind 1 := ⟨⟨tb1 (List.mem_of_getElem? (i := 9) (by decide +kernel)) rfl, tb5 (List.mem_of_getElem? (i := 106) (by decide +kernel)) rfl, rfl, ⟨by decide +kernel, by decide +kernel, by decide +kernel⟩, by decide +kernel, by decide +kernel⟩, tb5 (List.mem_of_getElem? (i := 104) (by decide +kernel)) rfl, tb5 (List.mem_of_getElem? (i := 105) (by decide +kernel)) rfl, by decide +kernel⟩
theorem kM_X8_kindOf : Ms M_X8_kindOf 1 := ⟨⟨tb1 (List.mem_of_getElem? (i := 9) (by decide +kernel)) rfl, tb4 (List.mem_of_getElem? (i := 172) (by decide +kernel)) rfl, rfl, ⟨by decide +kernel, by decide +kernel, by decide +kernel⟩, by decide +kernel, by decide +kernel⟩, tb4 (List.mem_of_getElem? (i := 171) (by decide +kernel)) rfl, by decide +kernel⟩
theorem kM_X8_last : Mv M_X8_last 2 := ⟨⟨tb1 (List.mem_of_getElem? (i := 9) (by decide +kernel)) rfl, tb5 (List.mem_of_getElem? (i := 54) (by decide +kernel)) rfl, rfl, ⟨by decide +kernel, by decide +kernel, by decide +kernel⟩, by decide +kernel, by decide +kernel⟩, tb5 (List.mem_of_getElem? (i := 52) (by decide +kernel)) rfl, tb5 (List.mem_of_getElem? (i := 53) (by decide +kernel)) rfl, by decide +kernel⟩
theorem kM_X8_lays : Mv M_X8_lays 2 := ⟨⟨tb1 (List.mem_of_getElem? (i := 9) (by decide +kernel)) rfl, tb5 (List.mem_of_getElem? (i := 61) (by decide +kernel)) rfl, rfl, ⟨by decide +kernel, by decide +kernel, by decide +kernel⟩, by decide +kernel, by decide +kernel⟩, tb5 (List.mem_of_getElem? (i := 60) (by decide +kernel)) rfl, tbs (q := (⟨"AlphaCourtModel", "lays", "(II)I"⟩, 27)) (List.mem_of_getElem? (i := 53) (by decide +kernel)), by decide +kernel⟩
theorem kM_X8_ledger : Mv M_X8_ledger 3 := ⟨⟨tb1 (List.mem_of_getElem? (i := 9) (by decide +kernel)) rfl, tb5 (List.mem_of_getElem? (i := 94) (by decide +kernel)) rfl, rfl, ⟨by decide +kernel, by decide +kernel, by decide +kernel⟩, by decide +kernel, by decide +kernel⟩, tb5 (List.mem_of_getElem? (i := 92) (by decide +kernel)) rfl, tb5 (List.mem_of_getElem? (i := 93) (by decide +kernel)) rfl, by decide +kernel⟩
theorem kM_X8_letterOf : Ms M_X8_letterOf 3 := ⟨⟨tb1 (List.mem_of_getElem? (i := 9) (by decide +kernel)) rfl, tb4 (List.mem_of_getElem? (i := 229) (by decide +kernel)) rfl, rfl, ⟨by decide +kernel, by decide +kernel, by decide +kernel⟩, by decide +kernel, by decide +kernel⟩, tb4 (List.mem_of_getElem? (i := 228) (by decide +kernel)) rfl, by decide +kernel⟩
theorem kM_X8_lines : Mv M_X8_lines 2 := ⟨⟨tb1 (List.mem_of_getElem? (i := 9) (by decide +kernel)) rfl, tb5 (List.mem_of_getElem? (i := 77) (by decide +kernel)) rfl, rfl, ⟨by decide +kernel, by decide +kernel, by decide +kernel⟩, by decide +kernel, by decide +kernel⟩, tb5 (List.mem_of_getElem? (i := 76) (by decide +kernel)) rfl, tbs (q := (⟨"AlphaCourtModel", "lines", "(II)Z"⟩, 27)) (List.mem_of_getElem? (i := 55) (by decide +kernel)), by decide +kernel⟩
theorem kM_X8_lose : Mv M_X8_lose 2 := ⟨⟨tb1 (List.mem_of_getElem? (i := 9) (by decide +kernel)) rfl, tb5 (List.mem_of_getElem? (i := 14) (by decide +kernel)) rfl, rfl, ⟨by decide +kernel, by decide +kernel, by decide +kernel⟩, by decide +kernel, by decide +kernel⟩, tb5 (List.mem_of_getElem? (i := 12) (by decide +kernel)) rfl, tb5 (List.mem_of_getElem? (i := 13) (by decide +kernel)) rfl, by decide +kernel⟩
theorem kM_X8_manySo : Ms M_X8_manySo 2 := ⟨⟨tb1 (List.mem_of_getElem? (i := 9) (by decide +kernel)) rfl, tb4 (List.mem_of_getElem? (i := 235) (by decide +kernel)) rfl, rfl, ⟨by decide +kernel, by decide +kernel, by decide +kernel⟩, by decide +kernel, by decide +kernel⟩, tb4 (List.mem_of_getElem? (i := 234) (by decide +kernel)) rfl, by decide +kernel⟩
theorem kM_X8_name : Mv M_X8_name 2 := ⟨⟨tb1 (List.mem_of_getElem? (i := 9) (by decide +kernel)) rfl, tb5 (List.mem_of_getElem? (i := 30) (by decide +kernel)) rfl, rfl, ⟨by decide +kernel, by decide +kernel, by decide +kernel⟩, by decide +kernel, by decide +kernel⟩, tb5 (List.mem_of_getElem? (i := 28) (by decide +kernel)) rfl, tb5 (List.mem_of_getElem? (i := 29) (by decide +kernel)) rfl, by decide +kernel⟩
theorem kM_X8_nextBy : Ms M_X8_nextBy 2 := ⟨⟨tb1 (List.mem_of_getElem? (i := 9) (by decide +kernel)) rfl, tb4 (List.mem_of_getElem? (i := 211) (by decide +kernel)) rfl, rfl, ⟨by decide +kernel, by decide +kernel, by decide +kernel⟩, by decide +kernel, by decide +kernel⟩, tb4 (List.mem_of_getElem? (i := 210) (by decide +kernel)) rfl, by decide +kernel⟩
theorem kM_X8_notes : Mv M_X8_notes 0 := ⟨⟨tb1 (List.mem_of_getElem? (i := 9) (by decide +kernel)) rfl, tb4 (List.mem_of_getElem? (i := 201) (by decide +kernel)) rfl, rfl, ⟨by decide +kernel, by decide +kernel, by decide +kernel⟩, by decide +kernel, by decide +kernel⟩, tb4 (List.mem_of_getElem? (i := 200) (by decide +kernel)) rfl, tbs (q := (⟨"AlphaCourtModel", "notes", "()V"⟩, 27)) (List.mem_of_getElem? (i := 46) (by decide +kernel)), by decide +kernel⟩
theorem kM_X8_of : Ms M_X8_of 3 := ⟨⟨tb1 (List.mem_of_getElem? (i := 9) (by decide +kernel)) rfl, tb4 (List.mem_of_getElem? (i := 217) (by decide +kernel)) rfl, rfl, ⟨by decide +kernel, by decide +kernel, by decide +kernel⟩, by decide +kernel, by decide +kernel⟩, tb4 (List.mem_of_getElem? (i := 216) (by decide +kernel)) rfl, by decide +kernel⟩
theorem kM_X8_order : Mv M_X8_order 1 := ⟨⟨tb1 (List.mem_of_getElem? (i := 9) (by decide +kernel)) rfl, tb5 (List.mem_of_getElem? (i := 34) (by decide +kernel)) rfl, rfl, ⟨by decide +kernel, by decide +kernel, by decide +kernel⟩, by decide +kernel, by decide +kernel⟩, tb5 (List.mem_of_getElem? (i := 32) (by decide +kernel)) rfl, tb5 (List.mem_of_getElem? (i := 33) (by decide +kernel)) rfl, by decide +kernel⟩
theorem kM_X8_passedBy : Mv M_X8_passedBy 1 := ⟨⟨tb1 (List.mem_of_getElem? (i := 9) (by decide +kernel)) rfl, tb5 (List.mem_of_getElem? (i := 90) (by decide +kernel)) rfl, rfl, ⟨by decide +kernel, by decide +kernel, by decide +kernel⟩, by decide +kernel, by decide +kernel⟩, tb5 (List.mem_of_getElem? (i := 89) (by decide +kernel)) rfl, tbs (q := (⟨"AlphaCourtModel", "passedBy", "(I)I"⟩, 27)) (List.mem_of_getElem? (i := 57) (by decide +kernel)), by decide +kernel⟩
theorem kM_X8_passes : Mv M_X8_passes 2 := ⟨⟨tb1 (List.mem_of_getElem? (i := 9) (by decide +kernel)) rfl, tb4 (List.mem_of_getElem? (i := 205) (by decide +kernel)) rfl, rfl, ⟨by decide +kernel, by decide +kernel, by decide +kernel⟩, by decide +kernel, by decide +kernel⟩, tb4 (List.mem_of_getElem? (i := 204) (by decide +kernel)) rfl, tbs (q := (⟨"AlphaCourtModel", "passes", "([II)V"⟩, 27)) (List.mem_of_getElem? (i := 47) (by decide +kernel)), by decide +kernel⟩
theorem kM_X8_person : Mv M_X8_person 2 := ⟨⟨tb1 (List.mem_of_getElem? (i := 9) (by decide +kernel)) rfl, tb5 (List.mem_of_getElem? (i := 22) (by decide +kernel)) rfl, rfl, ⟨by decide +kernel, by decide +kernel, by decide +kernel⟩, by decide +kernel, by decide +kernel⟩, tb5 (List.mem_of_getElem? (i := 20) (by decide +kernel)) rfl, tb5 (List.mem_of_getElem? (i := 21) (by decide +kernel)) rfl, by decide +kernel⟩
theorem kM_X8_plainMark : Mv M_X8_plainMark 1 := ⟨⟨tb1 (List.mem_of_getElem? (i := 9) (by decide +kernel)) rfl, tb5 (List.mem_of_getElem? (i := 130) (by decide +kernel)) rfl, rfl, ⟨by decide +kernel, by decide +kernel, by decide +kernel⟩, by decide +kernel, by decide +kernel⟩, tb5 (List.mem_of_getElem? (i := 129) (by decide +kernel)) rfl, tbs (q := (⟨"AlphaCourtModel", "plainMark", "(I)I"⟩, 27)) (List.mem_of_getElem? (i := 61) (by decide +kernel)), by decide +kernel⟩
theorem kM_X8_plainSize : Mv M_X8_plainSize 1 := ⟨⟨tb1 (List.mem_of_getElem? (i := 9) (by decide +kernel)) rfl, tb5 (List.mem_of_getElem? (i := 126) (by decide +kernel)) rfl, rfl, ⟨by decide +kernel, by decide +kernel, by decide +kernel⟩, by decide +kernel, by decide +kernel⟩, tb5 (List.mem_of_getElem? (i := 125) (by decide +kernel)) rfl, tbs (q := (⟨"AlphaCourtModel", "plainSize", "(I)I"⟩, 27)) (List.mem_of_getElem? (i := 60) (by decide +kernel)), by decide +kernel⟩
theorem kM_X8_power : Ms M_X8_power 2 := ⟨⟨tb1 (List.mem_of_getElem? (i := 9) (by decide +kernel)) rfl, tb5 (List.mem_of_getElem? (i := 57) (by decide +kernel)) rfl, rfl, ⟨by decide +kernel, by decide +kernel, by decide +kernel⟩, by decide +kernel, by decide +kernel⟩, tb5 (List.mem_of_getElem? (i := 56) (by decide +kernel)) rfl, by decide +kernel⟩
theorem kM_X8_rank : Ms M_X8_rank 3 := ⟨⟨tb1 (List.mem_of_getElem? (i := 9) (by decide +kernel)) rfl, tb4 (List.mem_of_getElem? (i := 232) (by decide +kernel)) rfl, rfl, ⟨by decide +kernel, by decide +kernel, by decide +kernel⟩, by decide +kernel, by decide +kernel⟩, tb4 (List.mem_of_getElem? (i := 231) (by decide +kernel)) rfl, by decide +kernel⟩
theorem kM_X8_readsOrder : Mv M_X8_readsOrder 0 := ⟨⟨tb1 (List.mem_of_getElem? (i := 9) (by decide +kernel)) rfl, tb4 (List.mem_of_getElem? (i := 162) (by decide +kernel)) rfl, rfl, ⟨by decide +kernel, by decide +kernel, by decide +kernel⟩, by decide +kernel, by decide +kernel⟩, tb4 (List.mem_of_getElem? (i := 161) (by decide +kernel)) rfl, tbs (q := (⟨"AlphaCourtModel", "readsOrder", "()V"⟩, 27)) (List.mem_of_getElem? (i := 41) (by decide +kernel)), by decide +kernel⟩
theorem kM_X8_readsPerson : Mv M_X8_readsPerson 0 := ⟨⟨tb1 (List.mem_of_getElem? (i := 9) (by decide +kernel)) rfl, tb4 (List.mem_of_getElem? (i := 176) (by decide +kernel)) rfl, rfl, ⟨by decide +kernel, by decide +kernel, by decide +kernel⟩, by decide +kernel, by decide +kernel⟩, tb4 (List.mem_of_getElem? (i := 175) (by decide +kernel)) rfl, tbs (q := (⟨"AlphaCourtModel", "readsPerson", "()V"⟩, 27)) (List.mem_of_getElem? (i := 43) (by decide +kernel)), by decide +kernel⟩
theorem kM_X8_restore : Mv M_X8_restore 1 := ⟨⟨tb1 (List.mem_of_getElem? (i := 9) (by decide +kernel)) rfl, tb5 (List.mem_of_getElem? (i := 102) (by decide +kernel)) rfl, rfl, ⟨by decide +kernel, by decide +kernel, by decide +kernel⟩, by decide +kernel, by decide +kernel⟩, tb5 (List.mem_of_getElem? (i := 100) (by decide +kernel)) rfl, tb5 (List.mem_of_getElem? (i := 101) (by decide +kernel)) rfl, by decide +kernel⟩
theorem kM_X8_row : Mv M_X8_row 3 := ⟨⟨tb1 (List.mem_of_getElem? (i := 9) (by decide +kernel)) rfl, tb4 (List.mem_of_getElem? (i := 90) (by decide +kernel)) rfl, rfl, ⟨by decide +kernel, by decide +kernel, by decide +kernel⟩, by decide +kernel, by decide +kernel⟩, tb4 (List.mem_of_getElem? (i := 88) (by decide +kernel)) rfl, tb4 (List.mem_of_getElem? (i := 89) (by decide +kernel)) rfl, by decide +kernel⟩
theorem kM_X8_saintMark : Mv M_X8_saintMark 1 := ⟨⟨tb1 (List.mem_of_getElem? (i := 9) (by decide +kernel)) rfl, tb5 (List.mem_of_getElem? (i := 134) (by decide +kernel)) rfl, rfl, ⟨by decide +kernel, by decide +kernel, by decide +kernel⟩, by decide +kernel, by decide +kernel⟩, tb5 (List.mem_of_getElem? (i := 133) (by decide +kernel)) rfl, tbs (q := (⟨"AlphaCourtModel", "saintMark", "(I)I"⟩, 27)) (List.mem_of_getElem? (i := 62) (by decide +kernel)), by decide +kernel⟩
theorem kM_X8_saintSize : Mv M_X8_saintSize 1 := ⟨⟨tb1 (List.mem_of_getElem? (i := 9) (by decide +kernel)) rfl, tb5 (List.mem_of_getElem? (i := 118) (by decide +kernel)) rfl, rfl, ⟨by decide +kernel, by decide +kernel, by decide +kernel⟩, by decide +kernel, by decide +kernel⟩, tb5 (List.mem_of_getElem? (i := 117) (by decide +kernel)) rfl, tbs (q := (⟨"AlphaCourtModel", "saintSize", "(I)I"⟩, 27)) (List.mem_of_getElem? (i := 58) (by decide +kernel)), by decide +kernel⟩
theorem kM_X8_seats : Ms M_X8_seats 2 := ⟨⟨tb1 (List.mem_of_getElem? (i := 9) (by decide +kernel)) rfl, tb4 (List.mem_of_getElem? (i := 238) (by decide +kernel)) rfl, rfl, ⟨by decide +kernel, by decide +kernel, by decide +kernel⟩, by decide +kernel, by decide +kernel⟩, tb4 (List.mem_of_getElem? (i := 237) (by decide +kernel)) rfl, by decide +kernel⟩
theorem kM_X8_set : Mv M_X8_set 3 := ⟨⟨tb1 (List.mem_of_getElem? (i := 9) (by decide +kernel)) rfl, tb4 (List.mem_of_getElem? (i := 110) (by decide +kernel)) rfl, rfl, ⟨by decide +kernel, by decide +kernel, by decide +kernel⟩, by decide +kernel, by decide +kernel⟩, tb4 (List.mem_of_getElem? (i := 108) (by decide +kernel)) rfl, tb4 (List.mem_of_getElem? (i := 109) (by decide +kernel)) rfl, by decide +kernel⟩
theorem kM_X8_status : Mv M_X8_status 0 := ⟨⟨tb1 (List.mem_of_getElem? (i := 9) (by decide +kernel)) rfl, tb5 (List.mem_of_getElem? (i := 146) (by decide +kernel)) rfl, rfl, ⟨by decide +kernel, by decide +kernel, by decide +kernel⟩, by decide +kernel, by decide +kernel⟩, tb5 (List.mem_of_getElem? (i := 144) (by decide +kernel)) rfl, tb5 (List.mem_of_getElem? (i := 145) (by decide +kernel)) rfl, by decide +kernel⟩
theorem kM_X8_takes : Mv M_X8_takes 2 := ⟨⟨tb1 (List.mem_of_getElem? (i := 9) (by decide +kernel)) rfl, tb4 (List.mem_of_getElem? (i := 150) (by decide +kernel)) rfl, rfl, ⟨by decide +kernel, by decide +kernel, by decide +kernel⟩, by decide +kernel, by decide +kernel⟩, tb4 (List.mem_of_getElem? (i := 149) (by decide +kernel)) rfl, tbs (q := (⟨"AlphaCourtModel", "takes", "(ZI)I"⟩, 27)) (List.mem_of_getElem? (i := 38) (by decide +kernel)), by decide +kernel⟩
theorem kM_X8_takes2 : Mv M_X8_takes2 1 := ⟨⟨tb1 (List.mem_of_getElem? (i := 9) (by decide +kernel)) rfl, tb4 (List.mem_of_getElem? (i := 180) (by decide +kernel)) rfl, rfl, ⟨by decide +kernel, by decide +kernel, by decide +kernel⟩, by decide +kernel, by decide +kernel⟩, tb4 (List.mem_of_getElem? (i := 179) (by decide +kernel)) rfl, tbs (q := (⟨"AlphaCourtModel", "takes2", "(Z)V"⟩, 27)) (List.mem_of_getElem? (i := 44) (by decide +kernel)), by decide +kernel⟩
theorem kM_X8_trace : Mv M_X8_trace 1 := ⟨⟨tb1 (List.mem_of_getElem? (i := 9) (by decide +kernel)) rfl, tb5 (List.mem_of_getElem? (i := 138) (by decide +kernel)) rfl, rfl, ⟨by decide +kernel, by decide +kernel, by decide +kernel⟩, by decide +kernel, by decide +kernel⟩, tb5 (List.mem_of_getElem? (i := 136) (by decide +kernel)) rfl, tb5 (List.mem_of_getElem? (i := 137) (by decide +kernel)) rfl, by decide +kernel⟩
theorem kM_X8_undo : Mv M_X8_undo 0 := ⟨⟨tb1 (List.mem_of_getElem? (i := 9) (by decide +kernel)) rfl, tb5 (List.mem_of_getElem? (i := 18) (by decide +kernel)) rfl, rfl, ⟨by decide +kernel, by decide +kernel, by decide +kernel⟩, by decide +kernel, by decide +kernel⟩, tb5 (List.mem_of_getElem? (i := 16) (by decide +kernel)) rfl, tb5 (List.mem_of_getElem? (i := 17) (by decide +kernel)) rfl, by decide +kernel⟩
theorem kM_X8_waited : Mv M_X8_waited 0 := ⟨⟨tb1 (List.mem_of_getElem? (i := 9) (by decide +kernel)) rfl, tb5 (List.mem_of_getElem? (i := 46) (by decide +kernel)) rfl, rfl, ⟨by decide +kernel, by decide +kernel, by decide +kernel⟩, by decide +kernel, by decide +kernel⟩, tb5 (List.mem_of_getElem? (i := 44) (by decide +kernel)) rfl, tb5 (List.mem_of_getElem? (i := 45) (by decide +kernel)) rfl, by decide +kernel⟩
theorem kM_X8_waitedByLine : Mv M_X8_waitedByLine 1 := ⟨⟨tb1 (List.mem_of_getElem? (i := 9) (by decide +kernel)) rfl, tb5 (List.mem_of_getElem? (i := 81) (by decide +kernel)) rfl, rfl, ⟨by decide +kernel, by decide +kernel, by decide +kernel⟩, by decide +kernel, by decide +kernel⟩, tb5 (List.mem_of_getElem? (i := 80) (by decide +kernel)) rfl, tbs (q := (⟨"AlphaCourtModel", "waitedByLine", "(I)I"⟩, 27)) (List.mem_of_getElem? (i := 56) (by decide +kernel)), by decide +kernel⟩
theorem kM_X8_waitedTried : Mv M_X8_waitedTried 0 := ⟨⟨tb1 (List.mem_of_getElem? (i := 9) (by decide +kernel)) rfl, tb5 (List.mem_of_getElem? (i := 50) (by decide +kernel)) rfl, rfl, ⟨by decide +kernel, by decide +kernel, by decide +kernel⟩, by decide +kernel, by decide +kernel⟩, tb5 (List.mem_of_getElem? (i := 49) (by decide +kernel)) rfl, tbs (q := (⟨"AlphaCourtModel", "waitedTried", "()I"⟩, 27)) (List.mem_of_getElem? (i := 52) (by decide +kernel)), by decide +kernel⟩
theorem kM_X8_waits : Ms M_X8_waits 2 := ⟨⟨tb1 (List.mem_of_getElem? (i := 9) (by decide +kernel)) rfl, tb4 (List.mem_of_getElem? (i := 214) (by decide +kernel)) rfl, rfl, ⟨by decide +kernel, by decide +kernel, by decide +kernel⟩, by decide +kernel, by decide +kernel⟩, tb4 (List.mem_of_getElem? (i := 213) (by decide +kernel)) rfl, by decide +kernel⟩
theorem kM_X8_warden : Mv M_X8_warden 1 := ⟨⟨tb1 (List.mem_of_getElem? (i := 9) (by decide +kernel)) rfl, tb5 (List.mem_of_getElem? (i := 73) (by decide +kernel)) rfl, rfl, ⟨by decide +kernel, by decide +kernel, by decide +kernel⟩, by decide +kernel, by decide +kernel⟩, tb5 (List.mem_of_getElem? (i := 71) (by decide +kernel)) rfl, tb5 (List.mem_of_getElem? (i := 72) (by decide +kernel)) rfl, by decide +kernel⟩
theorem kM_X8_well : Mv M_X8_well 1 := ⟨⟨tb1 (List.mem_of_getElem? (i := 9) (by decide +kernel)) rfl, tb4 (List.mem_of_getElem? (i := 106) (by decide +kernel)) rfl, rfl, ⟨by decide +kernel, by decide +kernel, by decide +kernel⟩, by decide +kernel, by decide +kernel⟩, tb4 (List.mem_of_getElem? (i := 105) (by decide +kernel)) rfl, tbs (q := (⟨"AlphaCourtModel", "well", "(I)I"⟩, 27)) (List.mem_of_getElem? (i := 33) (by decide +kernel)), by decide +kernel⟩
theorem kM_X8_when : Mv M_X8_when 2 := ⟨⟨tb1 (List.mem_of_getElem? (i := 9) (by decide +kernel)) rfl, tb5 (List.mem_of_getElem? (i := 38) (by decide +kernel)) rfl, rfl, ⟨by decide +kernel, by decide +kernel, by decide +kernel⟩, by decide +kernel, by decide +kernel⟩, tb5 (List.mem_of_getElem? (i := 36) (by decide +kernel)) rfl, tb5 (List.mem_of_getElem? (i := 37) (by decide +kernel)) rfl, by decide +kernel⟩
theorem uRX0 : ∀ w ∈ u_ws RX0 TX0 6, w ∈ TB := by
  have h : (u_ws RX0 TX0 6).all (fun w => decide (w ∈ lw_tbl) && goodWord w) = true := by decide +kernel
  intro w hw
  have h1 := List.all_eq_true.mp h w hw
  simp only [Bool.and_eq_true, decide_eq_true_eq] at h1
  exact tb_mem h1.1 h1.2
theorem uRX1 : ∀ w ∈ u_ws RX1 TX1 2, w ∈ TB := by
  have h : (u_ws RX1 TX1 2).all (fun w => decide (w ∈ lw_tbl) && goodWord w) = true := by decide +kernel
  intro w hw
  have h1 := List.all_eq_true.mp h w hw
  simp only [Bool.and_eq_true, decide_eq_true_eq] at h1
  exact tb_mem h1.1 h1.2
theorem uRX2 : ∀ w ∈ u_ws RX2 TX2 16, w ∈ TB := by
  have h : (u_ws RX2 TX2 16).all (fun w => decide (w ∈ lw_tbl) && goodWord w) = true := by decide +kernel
  intro w hw
  have h1 := List.all_eq_true.mp h w hw
  simp only [Bool.and_eq_true, decide_eq_true_eq] at h1
  exact tb_mem h1.1 h1.2
theorem uRX3 : ∀ w ∈ u_ws RX3 TX3 6, w ∈ TB := by
  have h : (u_ws RX3 TX3 6).all (fun w => decide (w ∈ lw_tbl) && goodWord w) = true := by decide +kernel
  intro w hw
  have h1 := List.all_eq_true.mp h w hw
  simp only [Bool.and_eq_true, decide_eq_true_eq] at h1
  exact tb_mem h1.1 h1.2
theorem uRX4 : ∀ w ∈ u_ws RX4 TX4 8, w ∈ TB := by
  have h : (u_ws RX4 TX4 8).all (fun w => decide (w ∈ lw_tbl) && goodWord w) = true := by decide +kernel
  intro w hw
  have h1 := List.all_eq_true.mp h w hw
  simp only [Bool.and_eq_true, decide_eq_true_eq] at h1
  exact tb_mem h1.1 h1.2
theorem uRX5 : ∀ w ∈ u_ws RX5 TX5 1, w ∈ TB := by
  have h : (u_ws RX5 TX5 1).all (fun w => decide (w ∈ lw_tbl) && goodWord w) = true := by decide +kernel
  intro w hw
  have h1 := List.all_eq_true.mp h w hw
  simp only [Bool.and_eq_true, decide_eq_true_eq] at h1
  exact tb_mem h1.1 h1.2
theorem uRX6 : ∀ w ∈ u_ws RX6 TX6 3, w ∈ TB := by
  have h : (u_ws RX6 TX6 3).all (fun w => decide (w ∈ lw_tbl) && goodWord w) = true := by decide +kernel
  intro w hw
  have h1 := List.all_eq_true.mp h w hw
  simp only [Bool.and_eq_true, decide_eq_true_eq] at h1
  exact tb_mem h1.1 h1.2
theorem uRX7 : ∀ w ∈ u_ws RX7 TX7 11, w ∈ TB := by
  have h : (u_ws RX7 TX7 11).all (fun w => decide (w ∈ lw_tbl) && goodWord w) = true := by decide +kernel
  intro w hw
  have h1 := List.all_eq_true.mp h w hw
  simp only [Bool.and_eq_true, decide_eq_true_eq] at h1
  exact tb_mem h1.1 h1.2
theorem uRX8 : ∀ w ∈ u_ws RX8 TX8 27, w ∈ TB := by
  have h : (u_ws RX8 TX8 27).all (fun w => decide (w ∈ lw_tbl) && goodWord w) = true := by decide +kernel
  intro w hw
  have h1 := List.all_eq_true.mp h w hw
  simp only [Bool.and_eq_true, decide_eq_true_eq] at h1
  exact tb_mem h1.1 h1.2
theorem fRX4_9 : Fk RX4 9 4 0 := ⟨RX4, TX4, 8, rfl, by decide, uRX4, tb1 (List.mem_of_getElem? (i := 28) (by decide +kernel)) rfl⟩
theorem fRX4_15 : Fk RX4 15 4 1 := ⟨RX4, TX4, 8, rfl, by decide, uRX4, tb1 (List.mem_of_getElem? (i := 29) (by decide +kernel)) rfl⟩
theorem pfRX4_15 : Fp RX4 15 4 1 .int := ⟨RX4, TX4, 8, tyX4, rfl, by decide, uRX4, tb1 (List.mem_of_getElem? (i := 29) (by decide +kernel)) rfl, tyX4_ok, nmX4, rfl, by decide +kernel⟩
theorem fRX7_108 : Fk RX7 108 4 1 := ⟨RX4, TX4, 8, rfl, by decide, uRX4, tb1 (List.mem_of_getElem? (i := 30) (by decide +kernel)) rfl⟩
theorem pfRX7_108 : Fp RX7 108 4 1 .int := ⟨RX4, TX4, 8, tyX4, rfl, by decide, uRX4, tb1 (List.mem_of_getElem? (i := 30) (by decide +kernel)) rfl, tyX4_ok, nmX4, rfl, by decide +kernel⟩
theorem fRX7_120 : Fk RX7 120 4 2 := ⟨RX4, TX4, 8, rfl, by decide, uRX4, tb1 (List.mem_of_getElem? (i := 31) (by decide +kernel)) rfl⟩
theorem pfRX7_120 : Fp RX7 120 4 2 .int := ⟨RX4, TX4, 8, tyX4, rfl, by decide, uRX4, tb1 (List.mem_of_getElem? (i := 31) (by decide +kernel)) rfl, tyX4_ok, nmX4, rfl, by decide +kernel⟩
theorem fRX4_98 : Fk RX4 98 4 2 := ⟨RX4, TX4, 8, rfl, by decide, uRX4, tb1 (List.mem_of_getElem? (i := 32) (by decide +kernel)) rfl⟩
theorem pfRX4_98 : Fp RX4 98 4 2 .int := ⟨RX4, TX4, 8, tyX4, rfl, by decide, uRX4, tb1 (List.mem_of_getElem? (i := 32) (by decide +kernel)) rfl, tyX4_ok, nmX4, rfl, by decide +kernel⟩
theorem fRX7_127 : Fk RX7 127 4 3 := ⟨RX4, TX4, 8, rfl, by decide, uRX4, tb1 (List.mem_of_getElem? (i := 33) (by decide +kernel)) rfl⟩
theorem pfRX7_127 : Fp RX7 127 4 3 .int := ⟨RX4, TX4, 8, tyX4, rfl, by decide, uRX4, tb1 (List.mem_of_getElem? (i := 33) (by decide +kernel)) rfl, tyX4_ok, nmX4, rfl, by decide +kernel⟩
theorem fRX4_104 : Fk RX4 104 4 3 := ⟨RX4, TX4, 8, rfl, by decide, uRX4, tb1 (List.mem_of_getElem? (i := 34) (by decide +kernel)) rfl⟩
theorem pfRX4_104 : Fp RX4 104 4 3 .int := ⟨RX4, TX4, 8, tyX4, rfl, by decide, uRX4, tb1 (List.mem_of_getElem? (i := 34) (by decide +kernel)) rfl, tyX4_ok, nmX4, rfl, by decide +kernel⟩
theorem fRX4_24 : Fk RX4 24 4 4 := ⟨RX4, TX4, 8, rfl, by decide, uRX4, tb1 (List.mem_of_getElem? (i := 35) (by decide +kernel)) rfl⟩
theorem pfRX4_24 : Fp RX4 24 4 4 .int := ⟨RX4, TX4, 8, tyX4, rfl, by decide, uRX4, tb1 (List.mem_of_getElem? (i := 35) (by decide +kernel)) rfl, tyX4_ok, nmX4, rfl, by decide +kernel⟩
theorem fRX4_101 : Fk RX4 101 4 5 := ⟨RX4, TX4, 8, rfl, by decide, uRX4, tb1 (List.mem_of_getElem? (i := 36) (by decide +kernel)) rfl⟩
theorem pfRX4_101 : Fp RX4 101 4 5 .int := ⟨RX4, TX4, 8, tyX4, rfl, by decide, uRX4, tb1 (List.mem_of_getElem? (i := 36) (by decide +kernel)) rfl, tyX4_ok, nmX4, rfl, by decide +kernel⟩
theorem fRX4_72 : Fk RX4 72 4 6 := ⟨RX4, TX4, 8, rfl, by decide, uRX4, tb1 (List.mem_of_getElem? (i := 37) (by decide +kernel)) rfl⟩
theorem pfRX4_72 : Fp RX4 72 4 6 .int := ⟨RX4, TX4, 8, tyX4, rfl, by decide, uRX4, tb1 (List.mem_of_getElem? (i := 37) (by decide +kernel)) rfl, tyX4_ok, nmX4, rfl, by decide +kernel⟩
theorem fRX4_107 : Fk RX4 107 4 7 := ⟨RX4, TX4, 8, rfl, by decide, uRX4, tb1 (List.mem_of_getElem? (i := 38) (by decide +kernel)) rfl⟩
theorem pfRX4_107 : Fp RX4 107 4 7 .int := ⟨RX4, TX4, 8, tyX4, rfl, by decide, uRX4, tb1 (List.mem_of_getElem? (i := 38) (by decide +kernel)) rfl, tyX4_ok, nmX4, rfl, by decide +kernel⟩
theorem fRX2_39 : Fk RX2 39 2 0 := ⟨RX2, TX2, 16, rfl, by decide, uRX2, tb1 (List.mem_of_getElem? (i := 63) (by decide +kernel)) rfl⟩
theorem pfRX2_39 : Fp RX2 39 2 0 .boolean := ⟨RX2, TX2, 16, tyX2, rfl, by decide, uRX2, tb1 (List.mem_of_getElem? (i := 63) (by decide +kernel)) rfl, tyX2_ok, nmX2, rfl, by decide +kernel⟩
theorem fRX7_140 : Fk RX7 140 2 0 := ⟨RX2, TX2, 16, rfl, by decide, uRX2, tb1 (List.mem_of_getElem? (i := 64) (by decide +kernel)) rfl⟩
theorem pfRX7_140 : Fp RX7 140 2 0 .boolean := ⟨RX2, TX2, 16, tyX2, rfl, by decide, uRX2, tb1 (List.mem_of_getElem? (i := 64) (by decide +kernel)) rfl, tyX2_ok, nmX2, rfl, by decide +kernel⟩
theorem fRX2_43 : Fk RX2 43 2 1 := ⟨RX2, TX2, 16, rfl, by decide, uRX2, tb1 (List.mem_of_getElem? (i := 65) (by decide +kernel)) rfl⟩
theorem pfRX2_43 : Fp RX2 43 2 1 .int := ⟨RX2, TX2, 16, tyX2, rfl, by decide, uRX2, tb1 (List.mem_of_getElem? (i := 65) (by decide +kernel)) rfl, tyX2_ok, nmX2, rfl, by decide +kernel⟩
theorem fRX3_33 : Fk RX3 33 2 1 := ⟨RX2, TX2, 16, rfl, by decide, uRX2, tb1 (List.mem_of_getElem? (i := 66) (by decide +kernel)) rfl⟩
theorem pfRX3_33 : Fp RX3 33 2 1 .int := ⟨RX2, TX2, 16, tyX2, rfl, by decide, uRX2, tb1 (List.mem_of_getElem? (i := 66) (by decide +kernel)) rfl, tyX2_ok, nmX2, rfl, by decide +kernel⟩
theorem fRX4_75 : Fk RX4 75 2 1 := ⟨RX2, TX2, 16, rfl, by decide, uRX2, tb1 (List.mem_of_getElem? (i := 67) (by decide +kernel)) rfl⟩
theorem pfRX4_75 : Fp RX4 75 2 1 .int := ⟨RX2, TX2, 16, tyX2, rfl, by decide, uRX2, tb1 (List.mem_of_getElem? (i := 67) (by decide +kernel)) rfl, tyX2_ok, nmX2, rfl, by decide +kernel⟩
theorem fRX7_137 : Fk RX7 137 2 1 := ⟨RX2, TX2, 16, rfl, by decide, uRX2, tb1 (List.mem_of_getElem? (i := 68) (by decide +kernel)) rfl⟩
theorem pfRX7_137 : Fp RX7 137 2 1 .int := ⟨RX2, TX2, 16, tyX2, rfl, by decide, uRX2, tb1 (List.mem_of_getElem? (i := 68) (by decide +kernel)) rfl, tyX2_ok, nmX2, rfl, by decide +kernel⟩
theorem fRX2_47 : Fk RX2 47 2 2 := ⟨RX2, TX2, 16, rfl, by decide, uRX2, tb1 (List.mem_of_getElem? (i := 69) (by decide +kernel)) rfl⟩
theorem pfRX2_47 : Fp RX2 47 2 2 .int := ⟨RX2, TX2, 16, tyX2, rfl, by decide, uRX2, tb1 (List.mem_of_getElem? (i := 69) (by decide +kernel)) rfl, tyX2_ok, nmX2, rfl, by decide +kernel⟩
theorem fRX3_62 : Fk RX3 62 2 2 := ⟨RX2, TX2, 16, rfl, by decide, uRX2, tb1 (List.mem_of_getElem? (i := 70) (by decide +kernel)) rfl⟩
theorem pfRX3_62 : Fp RX3 62 2 2 .int := ⟨RX2, TX2, 16, tyX2, rfl, by decide, uRX2, tb1 (List.mem_of_getElem? (i := 70) (by decide +kernel)) rfl, tyX2_ok, nmX2, rfl, by decide +kernel⟩
theorem fRX4_52 : Fk RX4 52 2 2 := ⟨RX2, TX2, 16, rfl, by decide, uRX2, tb1 (List.mem_of_getElem? (i := 71) (by decide +kernel)) rfl⟩
theorem pfRX4_52 : Fp RX4 52 2 2 .int := ⟨RX2, TX2, 16, tyX2, rfl, by decide, uRX2, tb1 (List.mem_of_getElem? (i := 71) (by decide +kernel)) rfl, tyX2_ok, nmX2, rfl, by decide +kernel⟩
theorem fRX7_274 : Fk RX7 274 2 2 := ⟨RX2, TX2, 16, rfl, by decide, uRX2, tb1 (List.mem_of_getElem? (i := 72) (by decide +kernel)) rfl⟩
theorem pfRX7_274 : Fp RX7 274 2 2 .int := ⟨RX2, TX2, 16, tyX2, rfl, by decide, uRX2, tb1 (List.mem_of_getElem? (i := 72) (by decide +kernel)) rfl, tyX2_ok, nmX2, rfl, by decide +kernel⟩
theorem fRX2_50 : Fk RX2 50 2 3 := ⟨RX2, TX2, 16, rfl, by decide, uRX2, tb1 (List.mem_of_getElem? (i := 73) (by decide +kernel)) rfl⟩
theorem pfRX2_50 : Fp RX2 50 2 3 .int := ⟨RX2, TX2, 16, tyX2, rfl, by decide, uRX2, tb1 (List.mem_of_getElem? (i := 73) (by decide +kernel)) rfl, tyX2_ok, nmX2, rfl, by decide +kernel⟩
theorem fRX4_55 : Fk RX4 55 2 3 := ⟨RX2, TX2, 16, rfl, by decide, uRX2, tb1 (List.mem_of_getElem? (i := 74) (by decide +kernel)) rfl⟩
theorem pfRX4_55 : Fp RX4 55 2 3 .int := ⟨RX2, TX2, 16, tyX2, rfl, by decide, uRX2, tb1 (List.mem_of_getElem? (i := 74) (by decide +kernel)) rfl, tyX2_ok, nmX2, rfl, by decide +kernel⟩
theorem fRX7_277 : Fk RX7 277 2 3 := ⟨RX2, TX2, 16, rfl, by decide, uRX2, tb1 (List.mem_of_getElem? (i := 75) (by decide +kernel)) rfl⟩
theorem pfRX7_277 : Fp RX7 277 2 3 .int := ⟨RX2, TX2, 16, tyX2, rfl, by decide, uRX2, tb1 (List.mem_of_getElem? (i := 75) (by decide +kernel)) rfl, tyX2_ok, nmX2, rfl, by decide +kernel⟩
theorem fRX5_22 : Fk RX5 22 2 4 := ⟨RX2, TX2, 16, rfl, by decide, uRX2, tb1 (List.mem_of_getElem? (i := 76) (by decide +kernel)) rfl⟩
theorem pfRX5_22 : Fp RX5 22 2 4 .int := ⟨RX2, TX2, 16, tyX2, rfl, by decide, uRX2, tb1 (List.mem_of_getElem? (i := 76) (by decide +kernel)) rfl, tyX2_ok, nmX2, rfl, by decide +kernel⟩
theorem fRX2_53 : Fk RX2 53 2 4 := ⟨RX2, TX2, 16, rfl, by decide, uRX2, tb1 (List.mem_of_getElem? (i := 77) (by decide +kernel)) rfl⟩
theorem pfRX2_53 : Fp RX2 53 2 4 .int := ⟨RX2, TX2, 16, tyX2, rfl, by decide, uRX2, tb1 (List.mem_of_getElem? (i := 77) (by decide +kernel)) rfl, tyX2_ok, nmX2, rfl, by decide +kernel⟩
theorem fRX3_63 : Fk RX3 63 2 4 := ⟨RX2, TX2, 16, rfl, by decide, uRX2, tb1 (List.mem_of_getElem? (i := 78) (by decide +kernel)) rfl⟩
theorem pfRX3_63 : Fp RX3 63 2 4 .int := ⟨RX2, TX2, 16, tyX2, rfl, by decide, uRX2, tb1 (List.mem_of_getElem? (i := 78) (by decide +kernel)) rfl, tyX2_ok, nmX2, rfl, by decide +kernel⟩
theorem fRX7_145 : Fk RX7 145 2 4 := ⟨RX2, TX2, 16, rfl, by decide, uRX2, tb1 (List.mem_of_getElem? (i := 79) (by decide +kernel)) rfl⟩
theorem pfRX7_145 : Fp RX7 145 2 4 .int := ⟨RX2, TX2, 16, tyX2, rfl, by decide, uRX2, tb1 (List.mem_of_getElem? (i := 79) (by decide +kernel)) rfl, tyX2_ok, nmX2, rfl, by decide +kernel⟩
theorem fRX2_56 : Fk RX2 56 2 5 := ⟨RX2, TX2, 16, rfl, by decide, uRX2, tb1 (List.mem_of_getElem? (i := 80) (by decide +kernel)) rfl⟩
theorem pfRX2_56 : Fp RX2 56 2 5 .int := ⟨RX2, TX2, 16, tyX2, rfl, by decide, uRX2, tb1 (List.mem_of_getElem? (i := 80) (by decide +kernel)) rfl, tyX2_ok, nmX2, rfl, by decide +kernel⟩
theorem fRX0_48 : Fk RX0 48 2 5 := ⟨RX2, TX2, 16, rfl, by decide, uRX2, tb1 (List.mem_of_getElem? (i := 81) (by decide +kernel)) rfl⟩
theorem pfRX0_48 : Fp RX0 48 2 5 .int := ⟨RX2, TX2, 16, tyX2, rfl, by decide, uRX2, tb1 (List.mem_of_getElem? (i := 81) (by decide +kernel)) rfl, tyX2_ok, nmX2, rfl, by decide +kernel⟩
theorem fRX7_177 : Fk RX7 177 2 5 := ⟨RX2, TX2, 16, rfl, by decide, uRX2, tb1 (List.mem_of_getElem? (i := 82) (by decide +kernel)) rfl⟩
theorem pfRX7_177 : Fp RX7 177 2 5 .int := ⟨RX2, TX2, 16, tyX2, rfl, by decide, uRX2, tb1 (List.mem_of_getElem? (i := 82) (by decide +kernel)) rfl, tyX2_ok, nmX2, rfl, by decide +kernel⟩
theorem fRX2_9 : Fk RX2 9 2 6 := ⟨RX2, TX2, 16, rfl, by decide, uRX2, tb1 (List.mem_of_getElem? (i := 83) (by decide +kernel)) rfl⟩
theorem fRX2_15 : Fk RX2 15 2 7 := ⟨RX2, TX2, 16, rfl, by decide, uRX2, tb1 (List.mem_of_getElem? (i := 84) (by decide +kernel)) rfl⟩
theorem fRX2_18 : Fk RX2 18 2 8 := ⟨RX2, TX2, 16, rfl, by decide, uRX2, tb1 (List.mem_of_getElem? (i := 85) (by decide +kernel)) rfl⟩
theorem fRX1_19 : Fk RX1 19 2 8 := ⟨RX2, TX2, 16, rfl, by decide, uRX2, tb1 (List.mem_of_getElem? (i := 86) (by decide +kernel)) rfl⟩
theorem fRX4_82 : Fk RX4 82 2 8 := ⟨RX2, TX2, 16, rfl, by decide, uRX2, tb1 (List.mem_of_getElem? (i := 87) (by decide +kernel)) rfl⟩
theorem fRX7_164 : Fk RX7 164 2 8 := ⟨RX2, TX2, 16, rfl, by decide, uRX2, tb1 (List.mem_of_getElem? (i := 88) (by decide +kernel)) rfl⟩
theorem fRX2_21 : Fk RX2 21 2 9 := ⟨RX2, TX2, 16, rfl, by decide, uRX2, tb1 (List.mem_of_getElem? (i := 89) (by decide +kernel)) rfl⟩
theorem fRX5_38 : Fk RX5 38 2 9 := ⟨RX2, TX2, 16, rfl, by decide, uRX2, tb1 (List.mem_of_getElem? (i := 90) (by decide +kernel)) rfl⟩
theorem fRX1_41 : Fk RX1 41 2 9 := ⟨RX2, TX2, 16, rfl, by decide, uRX2, tb1 (List.mem_of_getElem? (i := 91) (by decide +kernel)) rfl⟩
theorem fRX4_89 : Fk RX4 89 2 9 := ⟨RX2, TX2, 16, rfl, by decide, uRX2, tb1 (List.mem_of_getElem? (i := 92) (by decide +kernel)) rfl⟩
theorem fRX7_197 : Fk RX7 197 2 9 := ⟨RX2, TX2, 16, rfl, by decide, uRX2, tb1 (List.mem_of_getElem? (i := 93) (by decide +kernel)) rfl⟩
theorem fRX2_24 : Fk RX2 24 2 10 := ⟨RX2, TX2, 16, rfl, by decide, uRX2, tb1 (List.mem_of_getElem? (i := 94) (by decide +kernel)) rfl⟩
theorem fRX2_27 : Fk RX2 27 2 11 := ⟨RX2, TX2, 16, rfl, by decide, uRX2, tb1 (List.mem_of_getElem? (i := 95) (by decide +kernel)) rfl⟩
theorem fRX1_38 : Fk RX1 38 2 11 := ⟨RX2, TX2, 16, rfl, by decide, uRX2, tb1 (List.mem_of_getElem? (i := 96) (by decide +kernel)) rfl⟩
theorem fRX3_76 : Fk RX3 76 2 11 := ⟨RX2, TX2, 16, rfl, by decide, uRX2, tb1 (List.mem_of_getElem? (i := 97) (by decide +kernel)) rfl⟩
theorem fRX4_92 : Fk RX4 92 2 11 := ⟨RX2, TX2, 16, rfl, by decide, uRX2, tb1 (List.mem_of_getElem? (i := 98) (by decide +kernel)) rfl⟩
theorem fRX7_191 : Fk RX7 191 2 11 := ⟨RX2, TX2, 16, rfl, by decide, uRX2, tb1 (List.mem_of_getElem? (i := 99) (by decide +kernel)) rfl⟩
theorem fRX2_30 : Fk RX2 30 2 12 := ⟨RX2, TX2, 16, rfl, by decide, uRX2, tb1 (List.mem_of_getElem? (i := 100) (by decide +kernel)) rfl⟩
theorem fRX3_49 : Fk RX3 49 2 12 := ⟨RX2, TX2, 16, rfl, by decide, uRX2, tb1 (List.mem_of_getElem? (i := 101) (by decide +kernel)) rfl⟩
theorem fRX4_95 : Fk RX4 95 2 12 := ⟨RX2, TX2, 16, rfl, by decide, uRX2, tb1 (List.mem_of_getElem? (i := 102) (by decide +kernel)) rfl⟩
theorem fRX7_194 : Fk RX7 194 2 12 := ⟨RX2, TX2, 16, rfl, by decide, uRX2, tb1 (List.mem_of_getElem? (i := 103) (by decide +kernel)) rfl⟩
theorem fRX2_33 : Fk RX2 33 2 13 := ⟨RX2, TX2, 16, rfl, by decide, uRX2, tb1 (List.mem_of_getElem? (i := 104) (by decide +kernel)) rfl⟩
theorem fRX3_46 : Fk RX3 46 2 13 := ⟨RX2, TX2, 16, rfl, by decide, uRX2, tb1 (List.mem_of_getElem? (i := 105) (by decide +kernel)) rfl⟩
theorem fRX7_223 : Fk RX7 223 2 13 := ⟨RX2, TX2, 16, rfl, by decide, uRX2, tb1 (List.mem_of_getElem? (i := 106) (by decide +kernel)) rfl⟩
theorem fRX2_36 : Fk RX2 36 2 14 := ⟨RX2, TX2, 16, rfl, by decide, uRX2, tb1 (List.mem_of_getElem? (i := 107) (by decide +kernel)) rfl⟩
theorem fRX7_290 : Fk RX7 290 2 14 := ⟨RX2, TX2, 16, rfl, by decide, uRX2, tb1 (List.mem_of_getElem? (i := 108) (by decide +kernel)) rfl⟩
theorem fRX2_116 : Fk RX2 116 2 15 := ⟨RX2, TX2, 16, rfl, by decide, uRX2, tb1 (List.mem_of_getElem? (i := 109) (by decide +kernel)) rfl⟩
theorem pfRX2_116 : Fp RX2 116 2 15 .int := ⟨RX2, TX2, 16, tyX2, rfl, by decide, uRX2, tb1 (List.mem_of_getElem? (i := 109) (by decide +kernel)) rfl, tyX2_ok, nmX2, rfl, by decide +kernel⟩
theorem fRX7_287 : Fk RX7 287 2 15 := ⟨RX2, TX2, 16, rfl, by decide, uRX2, tb1 (List.mem_of_getElem? (i := 110) (by decide +kernel)) rfl⟩
theorem pfRX7_287 : Fp RX7 287 2 15 .int := ⟨RX2, TX2, 16, tyX2, rfl, by decide, uRX2, tb1 (List.mem_of_getElem? (i := 110) (by decide +kernel)) rfl, tyX2_ok, nmX2, rfl, by decide +kernel⟩
theorem fRX0_9 : Fk RX0 9 0 0 := ⟨RX0, TX0, 6, rfl, by decide, uRX0, tb1 (List.mem_of_getElem? (i := 151) (by decide +kernel)) rfl⟩
theorem fRX0_15 : Fk RX0 15 0 1 := ⟨RX0, TX0, 6, rfl, by decide, uRX0, tb1 (List.mem_of_getElem? (i := 152) (by decide +kernel)) rfl⟩
theorem fRX0_18 : Fk RX0 18 0 2 := ⟨RX0, TX0, 6, rfl, by decide, uRX0, tb1 (List.mem_of_getElem? (i := 153) (by decide +kernel)) rfl⟩
theorem fRX0_21 : Fk RX0 21 0 3 := ⟨RX0, TX0, 6, rfl, by decide, uRX0, tb1 (List.mem_of_getElem? (i := 154) (by decide +kernel)) rfl⟩
theorem fRX0_32 : Fk RX0 32 0 4 := ⟨RX0, TX0, 6, rfl, by decide, uRX0, tb1 (List.mem_of_getElem? (i := 155) (by decide +kernel)) rfl⟩
theorem pfRX0_32 : Fp RX0 32 0 4 .int := ⟨RX0, TX0, 6, tyX0, rfl, by decide, uRX0, tb1 (List.mem_of_getElem? (i := 155) (by decide +kernel)) rfl, tyX0_ok, nmX0, rfl, by decide +kernel⟩
theorem fRX0_24 : Fk RX0 24 0 5 := ⟨RX0, TX0, 6, rfl, by decide, uRX0, tb1 (List.mem_of_getElem? (i := 156) (by decide +kernel)) rfl⟩
theorem pfRX0_24 : Fp RX0 24 0 5 .int := ⟨RX0, TX0, 6, tyX0, rfl, by decide, uRX0, tb1 (List.mem_of_getElem? (i := 156) (by decide +kernel)) rfl, tyX0_ok, nmX0, rfl, by decide +kernel⟩
theorem fRX7_183 : Fk RX7 183 0 5 := ⟨RX0, TX0, 6, rfl, by decide, uRX0, tb1 (List.mem_of_getElem? (i := 157) (by decide +kernel)) rfl⟩
theorem pfRX7_183 : Fp RX7 183 0 5 .int := ⟨RX0, TX0, 6, tyX0, rfl, by decide, uRX0, tb1 (List.mem_of_getElem? (i := 157) (by decide +kernel)) rfl, tyX0_ok, nmX0, rfl, by decide +kernel⟩
theorem fRX5_12 : Fk RX5 12 5 0 := ⟨RX5, TX5, 1, rfl, by decide, uRX5, tb1 (List.mem_of_getElem? (i := 179) (by decide +kernel)) rfl⟩
theorem fRX7_234 : Fk RX7 234 5 0 := ⟨RX5, TX5, 1, rfl, by decide, uRX5, tb1 (List.mem_of_getElem? (i := 180) (by decide +kernel)) rfl⟩
theorem fRX3_9 : Fk RX3 9 3 0 := ⟨RX3, TX3, 6, rfl, by decide, uRX3, tb1 (List.mem_of_getElem? (i := 190) (by decide +kernel)) rfl⟩
theorem fRX7_241 : Fk RX7 241 3 0 := ⟨RX3, TX3, 6, rfl, by decide, uRX3, tb1 (List.mem_of_getElem? (i := 191) (by decide +kernel)) rfl⟩
theorem fRX3_25 : Fk RX3 25 3 1 := ⟨RX3, TX3, 6, rfl, by decide, uRX3, tb1 (List.mem_of_getElem? (i := 192) (by decide +kernel)) rfl⟩
theorem pfRX3_25 : Fp RX3 25 3 1 .int := ⟨RX3, TX3, 6, tyX3, rfl, by decide, uRX3, tb1 (List.mem_of_getElem? (i := 192) (by decide +kernel)) rfl, tyX3_ok, nmX3, rfl, by decide +kernel⟩
theorem fRX7_240 : Fk RX7 240 3 1 := ⟨RX3, TX3, 6, rfl, by decide, uRX3, tb1 (List.mem_of_getElem? (i := 193) (by decide +kernel)) rfl⟩
theorem pfRX7_240 : Fp RX7 240 3 1 .int := ⟨RX3, TX3, 6, tyX3, rfl, by decide, uRX3, tb1 (List.mem_of_getElem? (i := 193) (by decide +kernel)) rfl, tyX3_ok, nmX3, rfl, by decide +kernel⟩
theorem fRX3_30 : Fk RX3 30 3 2 := ⟨RX3, TX3, 6, rfl, by decide, uRX3, tb1 (List.mem_of_getElem? (i := 194) (by decide +kernel)) rfl⟩
theorem pfRX3_30 : Fp RX3 30 3 2 .int := ⟨RX3, TX3, 6, tyX3, rfl, by decide, uRX3, tb1 (List.mem_of_getElem? (i := 194) (by decide +kernel)) rfl, tyX3_ok, nmX3, rfl, by decide +kernel⟩
theorem fRX7_244 : Fk RX7 244 3 2 := ⟨RX3, TX3, 6, rfl, by decide, uRX3, tb1 (List.mem_of_getElem? (i := 195) (by decide +kernel)) rfl⟩
theorem pfRX7_244 : Fp RX7 244 3 2 .int := ⟨RX3, TX3, 6, tyX3, rfl, by decide, uRX3, tb1 (List.mem_of_getElem? (i := 195) (by decide +kernel)) rfl, tyX3_ok, nmX3, rfl, by decide +kernel⟩
theorem fRX3_15 : Fk RX3 15 3 3 := ⟨RX3, TX3, 6, rfl, by decide, uRX3, tb1 (List.mem_of_getElem? (i := 196) (by decide +kernel)) rfl⟩
theorem fRX3_18 : Fk RX3 18 3 4 := ⟨RX3, TX3, 6, rfl, by decide, uRX3, tb1 (List.mem_of_getElem? (i := 197) (by decide +kernel)) rfl⟩
theorem fRX3_56 : Fk RX3 56 3 5 := ⟨RX3, TX3, 6, rfl, by decide, uRX3, tb1 (List.mem_of_getElem? (i := 198) (by decide +kernel)) rfl⟩
theorem pfRX3_56 : Fp RX3 56 3 5 .int := ⟨RX3, TX3, 6, tyX3, rfl, by decide, uRX3, tb1 (List.mem_of_getElem? (i := 198) (by decide +kernel)) rfl, tyX3_ok, nmX3, rfl, by decide +kernel⟩
theorem fRX1_9 : Fk RX1 9 1 0 := ⟨RX1, TX1, 2, rfl, by decide, uRX1, tb1 (List.mem_of_getElem? (i := 218) (by decide +kernel)) rfl⟩
theorem fRX7_268 : Fk RX7 268 1 0 := ⟨RX1, TX1, 2, rfl, by decide, uRX1, tb1 (List.mem_of_getElem? (i := 219) (by decide +kernel)) rfl⟩
theorem fRX1_15 : Fk RX1 15 1 1 := ⟨RX1, TX1, 2, rfl, by decide, uRX1, tb1 (List.mem_of_getElem? (i := 220) (by decide +kernel)) rfl⟩
theorem pfRX1_15 : Fp RX1 15 1 1 .int := ⟨RX1, TX1, 2, tyX1, rfl, by decide, uRX1, tb1 (List.mem_of_getElem? (i := 220) (by decide +kernel)) rfl, tyX1_ok, nmX1, rfl, by decide +kernel⟩
theorem fRX7_265 : Fk RX7 265 1 1 := ⟨RX1, TX1, 2, rfl, by decide, uRX1, tb1 (List.mem_of_getElem? (i := 221) (by decide +kernel)) rfl⟩
theorem pfRX7_265 : Fp RX7 265 1 1 .int := ⟨RX1, TX1, 2, tyX1, rfl, by decide, uRX1, tb1 (List.mem_of_getElem? (i := 221) (by decide +kernel)) rfl, tyX1_ok, nmX1, rfl, by decide +kernel⟩
theorem fRX6_9 : Fk RX6 9 6 0 := ⟨RX6, TX6, 3, rfl, by decide, uRX6, tb1 (List.mem_of_getElem? (i := 232) (by decide +kernel)) rfl⟩
theorem fRX7_89 : Fk RX7 89 6 0 := ⟨RX6, TX6, 3, rfl, by decide, uRX6, tb1 (List.mem_of_getElem? (i := 233) (by decide +kernel)) rfl⟩
theorem fRX6_19 : Fk RX6 19 6 1 := ⟨RX6, TX6, 3, rfl, by decide, uRX6, tb1 (List.mem_of_getElem? (i := 234) (by decide +kernel)) rfl⟩
theorem pfRX6_19 : Fp RX6 19 6 1 .int := ⟨RX6, TX6, 3, tyX6, rfl, by decide, uRX6, tb1 (List.mem_of_getElem? (i := 234) (by decide +kernel)) rfl, tyX6_ok, nmX6, rfl, by decide +kernel⟩
theorem fRX7_96 : Fk RX7 96 6 1 := ⟨RX6, TX6, 3, rfl, by decide, uRX6, tb1 (List.mem_of_getElem? (i := 235) (by decide +kernel)) rfl⟩
theorem pfRX7_96 : Fp RX7 96 6 1 .int := ⟨RX6, TX6, 3, tyX6, rfl, by decide, uRX6, tb1 (List.mem_of_getElem? (i := 235) (by decide +kernel)) rfl, tyX6_ok, nmX6, rfl, by decide +kernel⟩
theorem fRX6_15 : Fk RX6 15 6 2 := ⟨RX6, TX6, 3, rfl, by decide, uRX6, tb1 (List.mem_of_getElem? (i := 236) (by decide +kernel)) rfl⟩
theorem pfRX6_15 : Fp RX6 15 6 2 .int := ⟨RX6, TX6, 3, tyX6, rfl, by decide, uRX6, tb1 (List.mem_of_getElem? (i := 236) (by decide +kernel)) rfl, tyX6_ok, nmX6, rfl, by decide +kernel⟩
theorem fRX7_85 : Fk RX7 85 6 2 := ⟨RX6, TX6, 3, rfl, by decide, uRX6, tb1 (List.mem_of_getElem? (i := 237) (by decide +kernel)) rfl⟩
theorem pfRX7_85 : Fp RX7 85 6 2 .int := ⟨RX6, TX6, 3, tyX6, rfl, by decide, uRX6, tb1 (List.mem_of_getElem? (i := 237) (by decide +kernel)) rfl, tyX6_ok, nmX6, rfl, by decide +kernel⟩
theorem fRX7_11 : Fk RX7 11 7 0 := ⟨RX7, TX7, 11, rfl, by decide, uRX7, tb2 (List.mem_of_getElem? (i := 5) (by decide +kernel)) rfl⟩
theorem fRX7_18 : Fk RX7 18 7 1 := ⟨RX7, TX7, 11, rfl, by decide, uRX7, tb2 (List.mem_of_getElem? (i := 6) (by decide +kernel)) rfl⟩
theorem fRX7_25 : Fk RX7 25 7 2 := ⟨RX7, TX7, 11, rfl, by decide, uRX7, tb2 (List.mem_of_getElem? (i := 7) (by decide +kernel)) rfl⟩
theorem fRX7_29 : Fk RX7 29 7 3 := ⟨RX7, TX7, 11, rfl, by decide, uRX7, tb2 (List.mem_of_getElem? (i := 8) (by decide +kernel)) rfl⟩
theorem fRX7_32 : Fk RX7 32 7 4 := ⟨RX7, TX7, 11, rfl, by decide, uRX7, tb2 (List.mem_of_getElem? (i := 9) (by decide +kernel)) rfl⟩
theorem fRX7_39 : Fk RX7 39 7 5 := ⟨RX7, TX7, 11, rfl, by decide, uRX7, tb2 (List.mem_of_getElem? (i := 10) (by decide +kernel)) rfl⟩
theorem fRX7_46 : Fk RX7 46 7 6 := ⟨RX7, TX7, 11, rfl, by decide, uRX7, tb2 (List.mem_of_getElem? (i := 11) (by decide +kernel)) rfl⟩
theorem fRX7_53 : Fk RX7 53 7 7 := ⟨RX7, TX7, 11, rfl, by decide, uRX7, tb2 (List.mem_of_getElem? (i := 12) (by decide +kernel)) rfl⟩
theorem fRX7_60 : Fk RX7 60 7 8 := ⟨RX7, TX7, 11, rfl, by decide, uRX7, tb2 (List.mem_of_getElem? (i := 13) (by decide +kernel)) rfl⟩
theorem fRX7_123 : Fk RX7 123 7 9 := ⟨RX7, TX7, 11, rfl, by decide, uRX7, tb2 (List.mem_of_getElem? (i := 14) (by decide +kernel)) rfl⟩
theorem pfRX7_123 : Fp RX7 123 7 9 .int := ⟨RX7, TX7, 11, tyX7, rfl, by decide, uRX7, tb2 (List.mem_of_getElem? (i := 14) (by decide +kernel)) rfl, tyX7_ok, nmX7, rfl, by decide +kernel⟩
theorem fRX7_280 : Fk RX7 280 7 10 := ⟨RX7, TX7, 11, rfl, by decide, uRX7, tb2 (List.mem_of_getElem? (i := 15) (by decide +kernel)) rfl⟩
theorem pfRX7_280 : Fp RX7 280 7 10 .int := ⟨RX7, TX7, 11, tyX7, rfl, by decide, uRX7, tb2 (List.mem_of_getElem? (i := 15) (by decide +kernel)) rfl, tyX7_ok, nmX7, rfl, by decide +kernel⟩
theorem lRL_13 : Cond.methodLink RL 13 (mN M_X7_row) ∈ TB := tb2 (List.mem_of_getElem? (i := 39) (by decide +kernel)) rfl
theorem lRX7_65 : Cond.methodLink RX7 65 (mN M_X7_isIn) ∈ TB := tb2 (List.mem_of_getElem? (i := 43) (by decide +kernel)) rfl
theorem nRX7_69 : Cond.constant RX7 69 (Int32.ofInt (-1000001)) ∈ TB := tb2 (List.mem_of_getElem? (i := 46) (by decide +kernel)) rfl
theorem lRX7_70 : Cond.methodLink RX7 70 (mN M_X7_found) ∈ TB := tb2 (List.mem_of_getElem? (i := 47) (by decide +kernel)) rfl
theorem nRX7_286 : Cond.constant RX7 286 (Int32.ofInt (-1000010)) ∈ TB := tb2 (List.mem_of_getElem? (i := 51) (by decide +kernel)) rfl
theorem lRX7_74 : Cond.methodLink RX7 74 (mN M_X6_begin) ∈ TB := tb2 (List.mem_of_getElem? (i := 52) (by decide +kernel)) rfl
theorem lRX7_78 : Cond.methodLink RX7 78 (mN M_X7_unfound) ∈ TB := tb2 (List.mem_of_getElem? (i := 56) (by decide +kernel)) rfl
theorem lRL_18 : Cond.methodLink RL 18 (mN M_X7_set) ∈ TB := tb2 (List.mem_of_getElem? (i := 60) (by decide +kernel)) rfl
theorem lRX7_81 : Cond.methodLink RX7 81 (mN M_X6_isMissing) ∈ TB := tb2 (List.mem_of_getElem? (i := 64) (by decide +kernel)) rfl
theorem lRX7_93 : Cond.methodLink RX7 93 (mN M_X6_cut) ∈ TB := tb2 (List.mem_of_getElem? (i := 68) (by decide +kernel)) rfl
theorem lRL_22 : Cond.methodLink RL 22 (mN M_X7_copy) ∈ TB := tb2 (List.mem_of_getElem? (i := 72) (by decide +kernel)) rfl
theorem lRX7_99 : Cond.methodLink RX7 99 (mN M_X6_hasRange) ∈ TB := tb2 (List.mem_of_getElem? (i := 76) (by decide +kernel)) rfl
theorem lRX7_102 : Cond.methodLink RX7 102 arraycopyName ∈ TB := tb2 (List.mem_of_getElem? (i := 80) (by decide +kernel)) rfl
theorem lRL_27 : Cond.methodLink RL 27 (mN M_X7_drop) ∈ TB := tb2 (List.mem_of_getElem? (i := 83) (by decide +kernel)) rfl
theorem lRL_32 : Cond.methodLink RL 32 (mN M_X7_feed) ∈ TB := tb2 (List.mem_of_getElem? (i := 87) (by decide +kernel)) rfl
theorem nRX7_111 : Cond.constant RX7 111 (Int32.ofInt (-1000003)) ∈ TB := tb2 (List.mem_of_getElem? (i := 91) (by decide +kernel)) rfl
theorem lRX7_112 : Cond.methodLink RX7 112 (mN M_X4_addByte) ∈ TB := tb2 (List.mem_of_getElem? (i := 92) (by decide +kernel)) rfl
theorem lRL_36 : Cond.methodLink RL 36 (mN M_X7_court) ∈ TB := tb2 (List.mem_of_getElem? (i := 96) (by decide +kernel)) rfl
theorem lRX7_116 : Cond.methodLink RX7 116 (mN M_X4_readInto) ∈ TB := tb2 (List.mem_of_getElem? (i := 100) (by decide +kernel)) rfl
theorem lRX4_19 : Cond.methodLink RX4 19 (mN M_X2_begin) ∈ TB := tb2 (List.mem_of_getElem? (i := 104) (by decide +kernel)) rfl
theorem nRX2_65 : Cond.constant RX2 65 (Int32.ofInt (-1000000)) ∈ TB := tb2 (List.mem_of_getElem? (i := 108) (by decide +kernel)) rfl
theorem lRX4_27 : Cond.methodLink RX4 27 (mN M_X4_step) ∈ TB := tb2 (List.mem_of_getElem? (i := 109) (by decide +kernel)) rfl
theorem lRX4_110 : Cond.methodLink RX4 110 (mN M_X4_isFigureAt) ∈ TB := tb2 (List.mem_of_getElem? (i := 113) (by decide +kernel)) rfl
theorem lRX4_30 : Cond.methodLink RX4 30 (mN M_X4_readLaw) ∈ TB := tb2 (List.mem_of_getElem? (i := 117) (by decide +kernel)) rfl
theorem lRX4_40 : Cond.methodLink RX4 40 (mN M_X4_passOver) ∈ TB := tb2 (List.mem_of_getElem? (i := 121) (by decide +kernel)) rfl
theorem lRX4_65 : Cond.methodLink RX4 65 (mN M_X4_hasFault) ∈ TB := tb2 (List.mem_of_getElem? (i := 125) (by decide +kernel)) rfl
theorem lRX4_44 : Cond.methodLink RX4 44 (mN M_X4_isNumberIn) ∈ TB := tb2 (List.mem_of_getElem? (i := 129) (by decide +kernel)) rfl
theorem lRX4_48 : Cond.methodLink RX4 48 (mN M_X4_takeNumber) ∈ TB := tb2 (List.mem_of_getElem? (i := 133) (by decide +kernel)) rfl
theorem lRX4_34 : Cond.methodLink RX4 34 (mN M_X4_readOrder) ∈ TB := tb2 (List.mem_of_getElem? (i := 137) (by decide +kernel)) rfl
theorem lRX4_58 : Cond.methodLink RX4 58 (mN M_X4_isLetter) ∈ TB := tb2 (List.mem_of_getElem? (i := 141) (by decide +kernel)) rfl
theorem lRX4_62 : Cond.methodLink RX4 62 (mN M_X4_letterOfToken) ∈ TB := tb2 (List.mem_of_getElem? (i := 145) (by decide +kernel)) rfl
theorem lRX4_68 : Cond.methodLink RX4 68 (mN M_X2_tellOrder) ∈ TB := tb2 (List.mem_of_getElem? (i := 149) (by decide +kernel)) rfl
theorem lRX4_37 : Cond.methodLink RX4 37 (mN M_X4_readPeople) ∈ TB := tb2 (List.mem_of_getElem? (i := 153) (by decide +kernel)) rfl
theorem lRX4_78 : Cond.methodLink RX4 78 (mN M_X4_readPerson) ∈ TB := tb2 (List.mem_of_getElem? (i := 157) (by decide +kernel)) rfl
theorem lRX4_85 : Cond.methodLink RX4 85 (mN M_X2_putLetter) ∈ TB := tb2 (List.mem_of_getElem? (i := 161) (by decide +kernel)) rfl
theorem nRX7_126 : Cond.constant RX7 126 (Int32.ofInt (-1000100)) ∈ TB := tb2 (List.mem_of_getElem? (i := 165) (by decide +kernel)) rfl
theorem lRX7_130 : Cond.methodLink RX7 130 (mN M_X2_takeFrom) ∈ TB := tb2 (List.mem_of_getElem? (i := 166) (by decide +kernel)) rfl
theorem lRX2_59 : Cond.methodLink RX2 59 arraycopyName ∈ TB := tb2 (List.mem_of_getElem? (i := 170) (by decide +kernel)) rfl
theorem lRX7_134 : Cond.methodLink RX7 134 (mN M_X0_forgetAll) ∈ TB := tb2 (List.mem_of_getElem? (i := 171) (by decide +kernel)) rfl
theorem lRL_41 : Cond.methodLink RL 41 (mN M_X7_fault) ∈ TB := tb2 (List.mem_of_getElem? (i := 175) (by decide +kernel)) rfl
theorem lRL_45 : Cond.methodLink RL 45 (mN M_X7_days) ∈ TB := tb2 (List.mem_of_getElem? (i := 179) (by decide +kernel)) rfl
theorem nRX7_144 : Cond.constant RX7 144 (Int32.ofInt (-1000002)) ∈ TB := tb2 (List.mem_of_getElem? (i := 183) (by decide +kernel)) rfl
theorem lRX7_148 : Cond.methodLink RX7 148 (mN M_X2_seatTill) ∈ TB := tb2 (List.mem_of_getElem? (i := 184) (by decide +kernel)) rfl
theorem lRX2_119 : Cond.methodLink RX2 119 (mN M_X2_openDay) ∈ TB := tb2 (List.mem_of_getElem? (i := 188) (by decide +kernel)) rfl
theorem nRX2_125 : Cond.constant RX2 125 (Int32.ofInt (1000000)) ∈ TB := tb2 (List.mem_of_getElem? (i := 192) (by decide +kernel)) rfl
theorem lRX2_96 : Cond.methodLink RX2 96 (mN M_X2_servesOn) ∈ TB := tb2 (List.mem_of_getElem? (i := 193) (by decide +kernel)) rfl
theorem lRX2_88 : Cond.methodLink RX2 88 (mN M_X2_isSeated) ∈ TB := tb2 (List.mem_of_getElem? (i := 197) (by decide +kernel)) rfl
theorem lRX2_92 : Cond.methodLink RX2 92 (mN M_X2_freeDay) ∈ TB := tb2 (List.mem_of_getElem? (i := 201) (by decide +kernel)) rfl
theorem lRX2_70 : Cond.methodLink RX2 70 Lib.Math.min.name ∈ TB := tb2 (List.mem_of_getElem? (i := 205) (by decide +kernel)) rfl
theorem lRX2_122 : Cond.methodLink RX2 122 (mN M_X2_firstOn) ∈ TB := tb2 (List.mem_of_getElem? (i := 208) (by decide +kernel)) rfl
theorem lRX2_106 : Cond.methodLink RX2 106 (mN M_X2_turnOn) ∈ TB := tb2 (List.mem_of_getElem? (i := 212) (by decide +kernel)) rfl
theorem lRX2_100 : Cond.methodLink RX2 100 (mN M_X2_waitsOn) ∈ TB := tb2 (List.mem_of_getElem? (i := 216) (by decide +kernel)) rfl
theorem lRX2_113 : Cond.methodLink RX2 113 (mN M_X2_lettersAsBits) ∈ TB := tb2 (List.mem_of_getElem? (i := 220) (by decide +kernel)) rfl
theorem lRX2_66 : Cond.methodLink RX2 66 (mN M_X2_letterOf) ∈ TB := tb2 (List.mem_of_getElem? (i := 224) (by decide +kernel)) rfl
theorem lRX2_109 : Cond.methodLink RX2 109 (mN M_X2_isBefore) ∈ TB := tb2 (List.mem_of_getElem? (i := 228) (by decide +kernel)) rfl
theorem zRX2_81 : Cond.fieldLinkNest RX2 81 (sC 1) (sN 1) "[I" "AlphaCourt" ∈ lw_tbl := List.mem_append_right _ (List.mem_append_right _ (List.mem_append_left _ (List.mem_of_getElem? (i := 232) (by decide +kernel))))
theorem lRX2_84 : Cond.methodLink RX2 84 (mN M_X2_compareNames) ∈ TB := tb2 (List.mem_of_getElem? (i := 234) (by decide +kernel)) rfl
theorem lRX2_75 : Cond.methodLink RX2 75 (mN M_X2_letterAsRead) ∈ TB := tb2 (List.mem_of_getElem? (i := 238) (by decide +kernel)) rfl
theorem lRX2_78 : Cond.methodLink RX2 78 (mN M_X2_placeInOrder) ∈ TB := tb3 (List.mem_of_getElem? (i := 2) (by decide +kernel)) rfl
theorem lRX7_151 : Cond.methodLink RX7 151 (mN M_X0_keepDay) ∈ TB := tb3 (List.mem_of_getElem? (i := 6) (by decide +kernel)) rfl
theorem lRX0_28 : Cond.methodLink RX0 28 (mN M_X0_keep) ∈ TB := tb3 (List.mem_of_getElem? (i := 10) (by decide +kernel)) rfl
theorem lRX0_35 : Cond.methodLink RX0 35 (mN M_X0_latestPlace) ∈ TB := tb3 (List.mem_of_getElem? (i := 14) (by decide +kernel)) rfl
theorem lRX7_154 : Cond.methodLink RX7 154 (mN M_X2_howMany) ∈ TB := tb3 (List.mem_of_getElem? (i := 18) (by decide +kernel)) rfl
theorem lRX2_103 : Cond.methodLink RX2 103 (mN M_X2_stateOf) ∈ TB := tb3 (List.mem_of_getElem? (i := 22) (by decide +kernel)) rfl
theorem lRL_49 : Cond.methodLink RL 49 (mN M_X7_forge) ∈ TB := tb3 (List.mem_of_getElem? (i := 26) (by decide +kernel)) rfl
theorem lRX7_157 : Cond.methodLink RX7 157 (mN M_X7_isPlaceOfName) ∈ TB := tb3 (List.mem_of_getElem? (i := 30) (by decide +kernel)) rfl
theorem lRX7_187 : Cond.methodLink RX7 187 (mN M_X7_isPerson) ∈ TB := tb3 (List.mem_of_getElem? (i := 34) (by decide +kernel)) rfl
theorem lRX7_160 : Cond.methodLink RX7 160 (mN M_X2_letterOf) ∈ TB := tb3 (List.mem_of_getElem? (i := 38) (by decide +kernel)) rfl
theorem lRX7_167 : Cond.methodLink RX7 167 (mN M_X2_waitsOn) ∈ TB := tb3 (List.mem_of_getElem? (i := 39) (by decide +kernel)) rfl
theorem lRX7_170 : Cond.methodLink RX7 170 (mN M_X2_putLetter) ∈ TB := tb3 (List.mem_of_getElem? (i := 40) (by decide +kernel)) rfl
theorem lRX7_174 : Cond.methodLink RX7 174 (mN M_X0_keepForged) ∈ TB := tb3 (List.mem_of_getElem? (i := 41) (by decide +kernel)) rfl
theorem lRL_53 : Cond.methodLink RL 53 (mN M_X7_lose) ∈ TB := tb3 (List.mem_of_getElem? (i := 45) (by decide +kernel)) rfl
theorem lRX7_180 : Cond.methodLink RX7 180 (mN M_X0_keepLost) ∈ TB := tb3 (List.mem_of_getElem? (i := 49) (by decide +kernel)) rfl
theorem lRL_58 : Cond.methodLink RL 58 (mN M_X7_undo) ∈ TB := tb3 (List.mem_of_getElem? (i := 53) (by decide +kernel)) rfl
theorem lRX7_184 : Cond.methodLink RX7 184 (mN M_X0_takeBack) ∈ TB := tb3 (List.mem_of_getElem? (i := 57) (by decide +kernel)) rfl
theorem lRX0_39 : Cond.methodLink RX0 39 (mN M_X2_takeBackDay) ∈ TB := tb3 (List.mem_of_getElem? (i := 61) (by decide +kernel)) rfl
theorem lRX0_44 : Cond.methodLink RX0 44 (mN M_X2_putLetter) ∈ TB := tb3 (List.mem_of_getElem? (i := 65) (by decide +kernel)) rfl
theorem lRL_62 : Cond.methodLink RL 62 (mN M_X7_person) ∈ TB := tb3 (List.mem_of_getElem? (i := 66) (by decide +kernel)) rfl
theorem lRX7_200 : Cond.methodLink RX7 200 (mN M_X2_stateOf) ∈ TB := tb3 (List.mem_of_getElem? (i := 70) (by decide +kernel)) rfl
theorem lRX7_203 : Cond.methodLink RX7 203 (mN M_X2_freeDay) ∈ TB := tb3 (List.mem_of_getElem? (i := 71) (by decide +kernel)) rfl
theorem lRX7_206 : Cond.methodLink RX7 206 (mN M_X2_howManyBefore) ∈ TB := tb3 (List.mem_of_getElem? (i := 72) (by decide +kernel)) rfl
theorem nRX7_209 : Cond.constant RX7 209 (Int32.ofInt (-1000000)) ∈ TB := tb3 (List.mem_of_getElem? (i := 76) (by decide +kernel)) rfl
theorem lRL_66 : Cond.methodLink RL 66 (mN M_X7_name) ∈ TB := tb3 (List.mem_of_getElem? (i := 77) (by decide +kernel)) rfl
theorem lRL_70 : Cond.methodLink RL 70 (mN M_X7_order) ∈ TB := tb3 (List.mem_of_getElem? (i := 81) (by decide +kernel)) rfl
theorem lRX7_210 : Cond.methodLink RX7 210 (mN M_X2_turnOn) ∈ TB := tb3 (List.mem_of_getElem? (i := 85) (by decide +kernel)) rfl
theorem lRX7_213 : Cond.methodLink RX7 213 (mN M_X2_letterInOrder) ∈ TB := tb3 (List.mem_of_getElem? (i := 86) (by decide +kernel)) rfl
theorem lRL_74 : Cond.methodLink RL 74 (mN M_X7_when) ∈ TB := tb3 (List.mem_of_getElem? (i := 90) (by decide +kernel)) rfl
theorem lRX7_216 : Cond.methodLink RX7 216 (mN M_X7_foretell) ∈ TB := tb3 (List.mem_of_getElem? (i := 94) (by decide +kernel)) rfl
theorem lRX7_220 : Cond.methodLink RX7 220 (mN M_X2_isSeated) ∈ TB := tb3 (List.mem_of_getElem? (i := 98) (by decide +kernel)) rfl
theorem lRL_78 : Cond.methodLink RL 78 (mN M_X7_waited) ∈ TB := tb3 (List.mem_of_getElem? (i := 99) (by decide +kernel)) rfl
theorem lRX7_226 : Cond.methodLink RX7 226 (mN M_X2_waitedByAll) ∈ TB := tb3 (List.mem_of_getElem? (i := 103) (by decide +kernel)) rfl
theorem lRL_82 : Cond.methodLink RL 82 (mN M_X7_last) ∈ TB := tb3 (List.mem_of_getElem? (i := 107) (by decide +kernel)) rfl
theorem lRX7_230 : Cond.methodLink RX7 230 (mN M_X5_findFewest) ∈ TB := tb3 (List.mem_of_getElem? (i := 111) (by decide +kernel)) rfl
theorem lRX5_18 : Cond.methodLink RX5 18 (mN M_X2_takeFrom) ∈ TB := tb3 (List.mem_of_getElem? (i := 115) (by decide +kernel)) rfl
theorem lRX5_26 : Cond.methodLink RX5 26 (mN M_X2_turnOn) ∈ TB := tb3 (List.mem_of_getElem? (i := 116) (by decide +kernel)) rfl
theorem lRX5_30 : Cond.methodLink RX5 30 (mN M_X2_lastWaitingBut) ∈ TB := tb3 (List.mem_of_getElem? (i := 117) (by decide +kernel)) rfl
theorem lRX5_33 : Cond.methodLink RX5 33 (mN M_X5_canBeBehind) ∈ TB := tb3 (List.mem_of_getElem? (i := 121) (by decide +kernel)) rfl
theorem lRX5_46 : Cond.methodLink RX5 46 (mN M_X2_letterInOrder) ∈ TB := tb3 (List.mem_of_getElem? (i := 125) (by decide +kernel)) rfl
theorem lRX5_49 : Cond.methodLink RX5 49 (mN M_X2_putLetter) ∈ TB := tb3 (List.mem_of_getElem? (i := 126) (by decide +kernel)) rfl
theorem lRX5_53 : Cond.methodLink RX5 53 (mN M_X2_isBefore) ∈ TB := tb3 (List.mem_of_getElem? (i := 127) (by decide +kernel)) rfl
theorem nRX5_37 : Cond.constant RX5 37 (Int32.ofInt (-1000000)) ∈ TB := tb3 (List.mem_of_getElem? (i := 128) (by decide +kernel)) rfl
theorem lRX5_42 : Cond.methodLink RX5 42 (mN M_X5_tryNames) ∈ TB := tb3 (List.mem_of_getElem? (i := 129) (by decide +kernel)) rfl
theorem lRX5_56 : Cond.methodLink RX5 56 (mN M_X2_letterOf) ∈ TB := tb3 (List.mem_of_getElem? (i := 132) (by decide +kernel)) rfl
theorem lRL_86 : Cond.methodLink RL 86 (mN M_X7_best) ∈ TB := tb3 (List.mem_of_getElem? (i := 133) (by decide +kernel)) rfl
theorem lRL_90 : Cond.methodLink RL 90 (mN M_X7_warden) ∈ TB := tb3 (List.mem_of_getElem? (i := 137) (by decide +kernel)) rfl
theorem lRX7_237 : Cond.methodLink RX7 237 (mN M_X3_plan) ∈ TB := tb3 (List.mem_of_getElem? (i := 141) (by decide +kernel)) rfl
theorem lRX3_21 : Cond.methodLink RX3 21 (mN M_X3_openSeats) ∈ TB := tb3 (List.mem_of_getElem? (i := 145) (by decide +kernel)) rfl
theorem lRX3_38 : Cond.methodLink RX3 38 (mN M_X2_stateOf) ∈ TB := tb3 (List.mem_of_getElem? (i := 149) (by decide +kernel)) rfl
theorem lRX3_59 : Cond.methodLink RX3 59 (mN M_X2_freeDay) ∈ TB := tb3 (List.mem_of_getElem? (i := 150) (by decide +kernel)) rfl
theorem nRX3_29 : Cond.constant RX3 29 (Int32.ofInt (1000000)) ∈ TB := tb3 (List.mem_of_getElem? (i := 151) (by decide +kernel)) rfl
theorem lRX3_42 : Cond.methodLink RX3 42 (mN M_X2_isSeated) ∈ TB := tb3 (List.mem_of_getElem? (i := 152) (by decide +kernel)) rfl
theorem lRX3_52 : Cond.methodLink RX3 52 (mN M_X3_seatOneByOne) ∈ TB := tb3 (List.mem_of_getElem? (i := 153) (by decide +kernel)) rfl
theorem lRX3_66 : Cond.methodLink RX3 66 arraycopyName ∈ TB := tb3 (List.mem_of_getElem? (i := 156) (by decide +kernel)) rfl
theorem lRX3_72 : Cond.methodLink RX3 72 (mN M_X3_firstOpenSeat) ∈ TB := tb3 (List.mem_of_getElem? (i := 157) (by decide +kernel)) rfl
theorem lRL_94 : Cond.methodLink RL 94 (mN M_X7_frees) ∈ TB := tb3 (List.mem_of_getElem? (i := 161) (by decide +kernel)) rfl
theorem lRX7_247 : Cond.methodLink RX7 247 (mN M_X2_howManyWaitWith) ∈ TB := tb3 (List.mem_of_getElem? (i := 165) (by decide +kernel)) rfl
theorem lRL_98 : Cond.methodLink RL 98 (mN M_X7_ledger) ∈ TB := tb3 (List.mem_of_getElem? (i := 169) (by decide +kernel)) rfl
theorem lRX7_250 : Cond.methodLink RX7 250 (mN M_X7_areAllPeople) ∈ TB := tb3 (List.mem_of_getElem? (i := 173) (by decide +kernel)) rfl
theorem lRX7_254 : Cond.methodLink RX7 254 (mN M_X7_areSeatedNext) ∈ TB := tb3 (List.mem_of_getElem? (i := 177) (by decide +kernel)) rfl
theorem lRL_102 : Cond.methodLink RL 102 (mN M_X7_image) ∈ TB := tb3 (List.mem_of_getElem? (i := 181) (by decide +kernel)) rfl
theorem lRL_106 : Cond.methodLink RL 106 (mN M_X7_restore) ∈ TB := tb3 (List.mem_of_getElem? (i := 185) (by decide +kernel)) rfl
theorem lRL_110 : Cond.methodLink RL 110 (mN M_X7_kind) ∈ TB := tb3 (List.mem_of_getElem? (i := 189) (by decide +kernel)) rfl
theorem lRL_114 : Cond.methodLink RL 114 (mN M_X7_as) ∈ TB := tb3 (List.mem_of_getElem? (i := 193) (by decide +kernel)) rfl
theorem lRX7_258 : Cond.methodLink RX7 258 (mN M_X7_isOfKind) ∈ TB := tb3 (List.mem_of_getElem? (i := 197) (by decide +kernel)) rfl
theorem zRX7_283 : Cond.fieldLink RX7 283 (sC 0) (sN 0) "[I" ∈ TB := tb3 (List.mem_of_getElem? (i := 200) (by decide +kernel)) rfl
theorem lRL_118 : Cond.methodLink RL 118 (mN M_X7_ask) ∈ TB := tb3 (List.mem_of_getElem? (i := 202) (by decide +kernel)) rfl
theorem lRX7_261 : Cond.methodLink RX7 261 (mN M_X1_answer) ∈ TB := tb3 (List.mem_of_getElem? (i := 206) (by decide +kernel)) rfl
theorem zRX1_24 : Cond.fieldLink RX1 24 (sC 2) (sN 2) "[I" ∈ TB := tb3 (List.mem_of_getElem? (i := 210) (by decide +kernel)) rfl
theorem zRX1_27 : Cond.fieldLink RX1 27 (sC 3) (sN 3) "[I" ∈ TB := tb3 (List.mem_of_getElem? (i := 212) (by decide +kernel)) rfl
theorem lRX1_30 : Cond.methodLink RX1 30 (mN M_X1_give) ∈ TB := tb3 (List.mem_of_getElem? (i := 214) (by decide +kernel)) rfl
theorem lRX1_34 : Cond.methodLink RX1 34 (mN M_X1_leave) ∈ TB := tb3 (List.mem_of_getElem? (i := 217) (by decide +kernel)) rfl
theorem lRL_122 : Cond.methodLink RL 122 (mN M_X7_trace) ∈ TB := tb3 (List.mem_of_getElem? (i := 221) (by decide +kernel)) rfl
theorem lRL_126 : Cond.methodLink RL 126 (mN M_X7_count) ∈ TB := tb3 (List.mem_of_getElem? (i := 225) (by decide +kernel)) rfl
theorem lRX7_271 : Cond.methodLink RX7 271 (mN M_X7_howManyRows) ∈ TB := tb3 (List.mem_of_getElem? (i := 229) (by decide +kernel)) rfl
theorem lRL_130 : Cond.methodLink RL 130 (mN M_X7_status) ∈ TB := tb3 (List.mem_of_getElem? (i := 233) (by decide +kernel)) rfl
theorem nRX8_59 : Cond.constant RX8 59 (Int32.ofInt (-1000000)) ∈ TB := tb4 (List.mem_of_getElem? (i := 3) (by decide +kernel)) rfl
theorem fRX8_7 : Fk RX8 7 8 0 := ⟨RX8, TX8, 27, rfl, by decide, uRX8, tb4 (List.mem_of_getElem? (i := 4) (by decide +kernel)) rfl⟩
theorem fRX8_13 : Fk RX8 13 8 1 := ⟨RX8, TX8, 27, rfl, by decide, uRX8, tb4 (List.mem_of_getElem? (i := 5) (by decide +kernel)) rfl⟩
theorem fRX8_16 : Fk RX8 16 8 2 := ⟨RX8, TX8, 27, rfl, by decide, uRX8, tb4 (List.mem_of_getElem? (i := 6) (by decide +kernel)) rfl⟩
theorem fRX8_19 : Fk RX8 19 8 3 := ⟨RX8, TX8, 27, rfl, by decide, uRX8, tb4 (List.mem_of_getElem? (i := 7) (by decide +kernel)) rfl⟩
theorem fRX8_60 : Fk RX8 60 8 4 := ⟨RX8, TX8, 27, rfl, by decide, uRX8, tb4 (List.mem_of_getElem? (i := 8) (by decide +kernel)) rfl⟩
theorem pfRX8_60 : Fp RX8 60 8 4 .int := ⟨RX8, TX8, 27, tyX8, rfl, by decide, uRX8, tb4 (List.mem_of_getElem? (i := 8) (by decide +kernel)) rfl, tyX8_ok, nmX8, rfl, by decide +kernel⟩
theorem fRX8_22 : Fk RX8 22 8 5 := ⟨RX8, TX8, 27, rfl, by decide, uRX8, tb4 (List.mem_of_getElem? (i := 9) (by decide +kernel)) rfl⟩
theorem fRX8_91 : Fk RX8 91 8 6 := ⟨RX8, TX8, 27, rfl, by decide, uRX8, tb4 (List.mem_of_getElem? (i := 10) (by decide +kernel)) rfl⟩
theorem pfRX8_91 : Fp RX8 91 8 6 .int := ⟨RX8, TX8, 27, tyX8, rfl, by decide, uRX8, tb4 (List.mem_of_getElem? (i := 10) (by decide +kernel)) rfl, tyX8_ok, nmX8, rfl, by decide +kernel⟩
theorem fRX8_117 : Fk RX8 117 8 7 := ⟨RX8, TX8, 27, rfl, by decide, uRX8, tb4 (List.mem_of_getElem? (i := 11) (by decide +kernel)) rfl⟩
theorem pfRX8_117 : Fp RX8 117 8 7 .int := ⟨RX8, TX8, 27, tyX8, rfl, by decide, uRX8, tb4 (List.mem_of_getElem? (i := 11) (by decide +kernel)) rfl, tyX8_ok, nmX8, rfl, by decide +kernel⟩
theorem fRX8_110 : Fk RX8 110 8 8 := ⟨RX8, TX8, 27, rfl, by decide, uRX8, tb4 (List.mem_of_getElem? (i := 12) (by decide +kernel)) rfl⟩
theorem pfRX8_110 : Fp RX8 110 8 8 .int := ⟨RX8, TX8, 27, tyX8, rfl, by decide, uRX8, tb4 (List.mem_of_getElem? (i := 12) (by decide +kernel)) rfl, tyX8_ok, nmX8, rfl, by decide +kernel⟩
theorem fRX8_95 : Fk RX8 95 8 9 := ⟨RX8, TX8, 27, rfl, by decide, uRX8, tb4 (List.mem_of_getElem? (i := 13) (by decide +kernel)) rfl⟩
theorem pfRX8_95 : Fp RX8 95 8 9 .int := ⟨RX8, TX8, 27, tyX8, rfl, by decide, uRX8, tb4 (List.mem_of_getElem? (i := 13) (by decide +kernel)) rfl, tyX8_ok, nmX8, rfl, by decide +kernel⟩
theorem fRX8_98 : Fk RX8 98 8 10 := ⟨RX8, TX8, 27, rfl, by decide, uRX8, tb4 (List.mem_of_getElem? (i := 14) (by decide +kernel)) rfl⟩
theorem pfRX8_98 : Fp RX8 98 8 10 .int := ⟨RX8, TX8, 27, tyX8, rfl, by decide, uRX8, tb4 (List.mem_of_getElem? (i := 14) (by decide +kernel)) rfl, tyX8_ok, nmX8, rfl, by decide +kernel⟩
theorem fRX8_107 : Fk RX8 107 8 11 := ⟨RX8, TX8, 27, rfl, by decide, uRX8, tb4 (List.mem_of_getElem? (i := 15) (by decide +kernel)) rfl⟩
theorem pfRX8_107 : Fp RX8 107 8 11 .int := ⟨RX8, TX8, 27, tyX8, rfl, by decide, uRX8, tb4 (List.mem_of_getElem? (i := 15) (by decide +kernel)) rfl, tyX8_ok, nmX8, rfl, by decide +kernel⟩
theorem fRX8_104 : Fk RX8 104 8 12 := ⟨RX8, TX8, 27, rfl, by decide, uRX8, tb4 (List.mem_of_getElem? (i := 16) (by decide +kernel)) rfl⟩
theorem pfRX8_104 : Fp RX8 104 8 12 .int := ⟨RX8, TX8, 27, tyX8, rfl, by decide, uRX8, tb4 (List.mem_of_getElem? (i := 16) (by decide +kernel)) rfl, tyX8_ok, nmX8, rfl, by decide +kernel⟩
theorem fRX8_25 : Fk RX8 25 8 13 := ⟨RX8, TX8, 27, rfl, by decide, uRX8, tb4 (List.mem_of_getElem? (i := 17) (by decide +kernel)) rfl⟩
theorem fRX8_28 : Fk RX8 28 8 14 := ⟨RX8, TX8, 27, rfl, by decide, uRX8, tb4 (List.mem_of_getElem? (i := 18) (by decide +kernel)) rfl⟩
theorem fRX8_31 : Fk RX8 31 8 15 := ⟨RX8, TX8, 27, rfl, by decide, uRX8, tb4 (List.mem_of_getElem? (i := 19) (by decide +kernel)) rfl⟩
theorem fRX8_34 : Fk RX8 34 8 16 := ⟨RX8, TX8, 27, rfl, by decide, uRX8, tb4 (List.mem_of_getElem? (i := 20) (by decide +kernel)) rfl⟩
theorem fRX8_155 : Fk RX8 155 8 17 := ⟨RX8, TX8, 27, rfl, by decide, uRX8, tb4 (List.mem_of_getElem? (i := 21) (by decide +kernel)) rfl⟩
theorem pfRX8_155 : Fp RX8 155 8 17 .int := ⟨RX8, TX8, 27, tyX8, rfl, by decide, uRX8, tb4 (List.mem_of_getElem? (i := 21) (by decide +kernel)) rfl, tyX8_ok, nmX8, rfl, by decide +kernel⟩
theorem fRX8_37 : Fk RX8 37 8 18 := ⟨RX8, TX8, 27, rfl, by decide, uRX8, tb4 (List.mem_of_getElem? (i := 22) (by decide +kernel)) rfl⟩
theorem fRX8_40 : Fk RX8 40 8 19 := ⟨RX8, TX8, 27, rfl, by decide, uRX8, tb4 (List.mem_of_getElem? (i := 23) (by decide +kernel)) rfl⟩
theorem fRX8_44 : Fk RX8 44 8 20 := ⟨RX8, TX8, 27, rfl, by decide, uRX8, tb4 (List.mem_of_getElem? (i := 24) (by decide +kernel)) rfl⟩
theorem fRX8_248 : Fk RX8 248 8 21 := ⟨RX8, TX8, 27, rfl, by decide, uRX8, tb4 (List.mem_of_getElem? (i := 25) (by decide +kernel)) rfl⟩
theorem pfRX8_248 : Fp RX8 248 8 21 .int := ⟨RX8, TX8, 27, tyX8, rfl, by decide, uRX8, tb4 (List.mem_of_getElem? (i := 25) (by decide +kernel)) rfl, tyX8_ok, nmX8, rfl, by decide +kernel⟩
theorem fRX8_47 : Fk RX8 47 8 22 := ⟨RX8, TX8, 27, rfl, by decide, uRX8, tb4 (List.mem_of_getElem? (i := 26) (by decide +kernel)) rfl⟩
theorem fRX8_187 : Fk RX8 187 8 23 := ⟨RX8, TX8, 27, rfl, by decide, uRX8, tb4 (List.mem_of_getElem? (i := 27) (by decide +kernel)) rfl⟩
theorem pfRX8_187 : Fp RX8 187 8 23 .int := ⟨RX8, TX8, 27, tyX8, rfl, by decide, uRX8, tb4 (List.mem_of_getElem? (i := 27) (by decide +kernel)) rfl, tyX8_ok, nmX8, rfl, by decide +kernel⟩
theorem fRX8_50 : Fk RX8 50 8 24 := ⟨RX8, TX8, 27, rfl, by decide, uRX8, tb4 (List.mem_of_getElem? (i := 28) (by decide +kernel)) rfl⟩
theorem fRX8_53 : Fk RX8 53 8 25 := ⟨RX8, TX8, 27, rfl, by decide, uRX8, tb4 (List.mem_of_getElem? (i := 29) (by decide +kernel)) rfl⟩
theorem fRX8_56 : Fk RX8 56 8 26 := ⟨RX8, TX8, 27, rfl, by decide, uRX8, tb4 (List.mem_of_getElem? (i := 30) (by decide +kernel)) rfl⟩
theorem lRL_17 : Cond.methodLink RL 17 (mN M_X8_row) ∈ TB := tb4 (List.mem_of_getElem? (i := 87) (by decide +kernel)) rfl
theorem lRX8_69 : Cond.methodLink RX8 69 (mN M_X8_isRow) ∈ TB := tb4 (List.mem_of_getElem? (i := 91) (by decide +kernel)) rfl
theorem lRX8_65 : Cond.methodLink RX8 65 (mN M_X8_in) ∈ TB := tb4 (List.mem_of_getElem? (i := 94) (by decide +kernel)) rfl
theorem nRX8_73 : Cond.constant RX8 73 (Int32.ofInt (-1000001)) ∈ TB := tb4 (List.mem_of_getElem? (i := 97) (by decide +kernel)) rfl
theorem lRX8_74 : Cond.methodLink RX8 74 (mN M_X8_found) ∈ TB := tb4 (List.mem_of_getElem? (i := 98) (by decide +kernel)) rfl
theorem nRX8_64 : Cond.constant RX8 64 (Int32.ofInt (-1000010)) ∈ TB := tb4 (List.mem_of_getElem? (i := 102) (by decide +kernel)) rfl
theorem lRX8_78 : Cond.methodLink RX8 78 (mN M_X8_well) ∈ TB := tb4 (List.mem_of_getElem? (i := 103) (by decide +kernel)) rfl
theorem lRL_21 : Cond.methodLink RL 21 (mN M_X8_set) ∈ TB := tb4 (List.mem_of_getElem? (i := 107) (by decide +kernel)) rfl
theorem lRX8_81 : Cond.methodLink RX8 81 (mN M_X8_isMissing) ∈ TB := tb4 (List.mem_of_getElem? (i := 111) (by decide +kernel)) rfl
theorem lRX8_84 : Cond.methodLink RX8 84 (mN M_X8_cut) ∈ TB := tb4 (List.mem_of_getElem? (i := 115) (by decide +kernel)) rfl
theorem lRL_26 : Cond.methodLink RL 26 (mN M_X8_copy) ∈ TB := tb4 (List.mem_of_getElem? (i := 118) (by decide +kernel)) rfl
theorem lRX8_88 : Cond.methodLink RX8 88 (mN M_X8_isPart) ∈ TB := tb4 (List.mem_of_getElem? (i := 122) (by decide +kernel)) rfl
theorem lRL_31 : Cond.methodLink RL 31 (mN M_X8_drop) ∈ TB := tb4 (List.mem_of_getElem? (i := 126) (by decide +kernel)) rfl
theorem lRL_35 : Cond.methodLink RL 35 (mN M_X8_feed) ∈ TB := tb4 (List.mem_of_getElem? (i := 130) (by decide +kernel)) rfl
theorem nRX8_94 : Cond.constant RX8 94 (Int32.ofInt (-1000003)) ∈ TB := tb4 (List.mem_of_getElem? (i := 134) (by decide +kernel)) rfl
theorem lRL_40 : Cond.methodLink RL 40 (mN M_X8_court) ∈ TB := tb4 (List.mem_of_getElem? (i := 135) (by decide +kernel)) rfl
theorem lRX8_120 : Cond.methodLink RX8 120 (mN M_X8_advances) ∈ TB := tb4 (List.mem_of_getElem? (i := 139) (by decide +kernel)) rfl
theorem lRX8_101 : Cond.methodLink RX8 101 (mN M_X8_byteAt) ∈ TB := tb4 (List.mem_of_getElem? (i := 143) (by decide +kernel)) rfl
theorem lRX8_123 : Cond.methodLink RX8 123 (mN M_X8_takes) ∈ TB := tb4 (List.mem_of_getElem? (i := 147) (by decide +kernel)) rfl
theorem lRX8_113 : Cond.methodLink RX8 113 (mN M_X8_isWell) ∈ TB := tb4 (List.mem_of_getElem? (i := 151) (by decide +kernel)) rfl
theorem lRX8_141 : Cond.methodLink RX8 141 (mN M_X8_figure) ∈ TB := tb4 (List.mem_of_getElem? (i := 155) (by decide +kernel)) rfl
theorem lRX8_144 : Cond.methodLink RX8 144 (mN M_X8_readsOrder) ∈ TB := tb4 (List.mem_of_getElem? (i := 159) (by decide +kernel)) rfl
theorem lRX8_127 : Cond.methodLink RX8 127 (mN M_X8_isName) ∈ TB := tb4 (List.mem_of_getElem? (i := 163) (by decide +kernel)) rfl
theorem lRX8_130 : Cond.methodLink RX8 130 (mN M_X8_has) ∈ TB := tb4 (List.mem_of_getElem? (i := 167) (by decide +kernel)) rfl
theorem lRX8_134 : Cond.methodLink RX8 134 (mN M_X8_kindOf) ∈ TB := tb4 (List.mem_of_getElem? (i := 170) (by decide +kernel)) rfl
theorem lRX8_147 : Cond.methodLink RX8 147 (mN M_X8_readsPerson) ∈ TB := tb4 (List.mem_of_getElem? (i := 173) (by decide +kernel)) rfl
theorem lRX8_137 : Cond.methodLink RX8 137 (mN M_X8_takes2) ∈ TB := tb4 (List.mem_of_getElem? (i := 177) (by decide +kernel)) rfl
theorem nRX8_150 : Cond.constant RX8 150 (Int32.ofInt (-1000100)) ∈ TB := tb4 (List.mem_of_getElem? (i := 181) (by decide +kernel)) rfl
theorem lRX8_151 : Cond.methodLink RX8 151 (mN M_X8_copies) ∈ TB := tb4 (List.mem_of_getElem? (i := 182) (by decide +kernel)) rfl
theorem lRL_44 : Cond.methodLink RL 44 (mN M_X8_fault) ∈ TB := tb4 (List.mem_of_getElem? (i := 185) (by decide +kernel)) rfl
theorem lRL_48 : Cond.methodLink RL 48 (mN M_X8_days) ∈ TB := tb4 (List.mem_of_getElem? (i := 189) (by decide +kernel)) rfl
theorem lRX8_200 : Cond.methodLink RX8 200 (mN M_X8_isCourt) ∈ TB := tb4 (List.mem_of_getElem? (i := 193) (by decide +kernel)) rfl
theorem nRX8_203 : Cond.constant RX8 203 (Int32.ofInt (-1000002)) ∈ TB := tb4 (List.mem_of_getElem? (i := 197) (by decide +kernel)) rfl
theorem lRX8_204 : Cond.methodLink RX8 204 (mN M_X8_notes) ∈ TB := tb4 (List.mem_of_getElem? (i := 198) (by decide +kernel)) rfl
theorem lRX8_207 : Cond.methodLink RX8 207 (mN M_X8_passes) ∈ TB := tb4 (List.mem_of_getElem? (i := 202) (by decide +kernel)) rfl
theorem lRX8_183 : Cond.methodLink RX8 183 (mN M_X8_ages) ∈ TB := tb4 (List.mem_of_getElem? (i := 206) (by decide +kernel)) rfl
theorem lRX8_190 : Cond.methodLink RX8 190 (mN M_X8_nextBy) ∈ TB := tb4 (List.mem_of_getElem? (i := 209) (by decide +kernel)) rfl
theorem lRX8_172 : Cond.methodLink RX8 172 (mN M_X8_waits) ∈ TB := tb4 (List.mem_of_getElem? (i := 212) (by decide +kernel)) rfl
theorem lRX8_158 : Cond.methodLink RX8 158 (mN M_X8_of) ∈ TB := tb4 (List.mem_of_getElem? (i := 215) (by decide +kernel)) rfl
theorem lRX8_176 : Cond.methodLink RX8 176 (mN M_X8_isLost) ∈ TB := tb4 (List.mem_of_getElem? (i := 218) (by decide +kernel)) rfl
theorem lRX8_179 : Cond.methodLink RX8 179 (mN M_X8_isBefore) ∈ TB := tb4 (List.mem_of_getElem? (i := 221) (by decide +kernel)) rfl
theorem lRX8_162 : Cond.methodLink RX8 162 (mN M_X8_classOf) ∈ TB := tb4 (List.mem_of_getElem? (i := 224) (by decide +kernel)) rfl
theorem lRX8_166 : Cond.methodLink RX8 166 (mN M_X8_letterOf) ∈ TB := tb4 (List.mem_of_getElem? (i := 227) (by decide +kernel)) rfl
theorem lRX8_169 : Cond.methodLink RX8 169 (mN M_X8_rank) ∈ TB := tb4 (List.mem_of_getElem? (i := 230) (by decide +kernel)) rfl
theorem lRX8_193 : Cond.methodLink RX8 193 (mN M_X8_manySo) ∈ TB := tb4 (List.mem_of_getElem? (i := 233) (by decide +kernel)) rfl
theorem lRX8_196 : Cond.methodLink RX8 196 (mN M_X8_seats) ∈ TB := tb4 (List.mem_of_getElem? (i := 236) (by decide +kernel)) rfl
theorem lRL_52 : Cond.methodLink RL 52 (mN M_X8_forge) ∈ TB := tb4 (List.mem_of_getElem? (i := 239) (by decide +kernel)) rfl
theorem lRX8_213 : Cond.methodLink RX8 213 (mN M_X8_isPlaceOf) ∈ TB := tb5 (List.mem_of_getElem? (i := 3) (by decide +kernel)) rfl
theorem lRX8_210 : Cond.methodLink RX8 210 (mN M_X8_isPerson) ∈ TB := tb5 (List.mem_of_getElem? (i := 7) (by decide +kernel)) rfl
theorem lRL_57 : Cond.methodLink RL 57 (mN M_X8_lose) ∈ TB := tb5 (List.mem_of_getElem? (i := 11) (by decide +kernel)) rfl
theorem lRL_61 : Cond.methodLink RL 61 (mN M_X8_undo) ∈ TB := tb5 (List.mem_of_getElem? (i := 15) (by decide +kernel)) rfl
theorem lRL_65 : Cond.methodLink RL 65 (mN M_X8_person) ∈ TB := tb5 (List.mem_of_getElem? (i := 19) (by decide +kernel)) rfl
theorem lRX8_216 : Cond.methodLink RX8 216 (mN M_X8_beforeIt) ∈ TB := tb5 (List.mem_of_getElem? (i := 23) (by decide +kernel)) rfl
theorem lRL_69 : Cond.methodLink RL 69 (mN M_X8_name) ∈ TB := tb5 (List.mem_of_getElem? (i := 27) (by decide +kernel)) rfl
theorem lRL_73 : Cond.methodLink RL 73 (mN M_X8_order) ∈ TB := tb5 (List.mem_of_getElem? (i := 31) (by decide +kernel)) rfl
theorem lRL_77 : Cond.methodLink RL 77 (mN M_X8_when) ∈ TB := tb5 (List.mem_of_getElem? (i := 35) (by decide +kernel)) rfl
theorem lRX8_219 : Cond.methodLink RX8 219 (mN M_X8_goes) ∈ TB := tb5 (List.mem_of_getElem? (i := 39) (by decide +kernel)) rfl
theorem lRL_81 : Cond.methodLink RL 81 (mN M_X8_waited) ∈ TB := tb5 (List.mem_of_getElem? (i := 43) (by decide +kernel)) rfl
theorem lRX8_223 : Cond.methodLink RX8 223 (mN M_X8_waitedTried) ∈ TB := tb5 (List.mem_of_getElem? (i := 47) (by decide +kernel)) rfl
theorem lRL_85 : Cond.methodLink RL 85 (mN M_X8_last) ∈ TB := tb5 (List.mem_of_getElem? (i := 51) (by decide +kernel)) rfl
theorem lRX8_227 : Cond.methodLink RX8 227 (mN M_X8_power) ∈ TB := tb5 (List.mem_of_getElem? (i := 55) (by decide +kernel)) rfl
theorem lRX8_230 : Cond.methodLink RX8 230 (mN M_X8_lays) ∈ TB := tb5 (List.mem_of_getElem? (i := 58) (by decide +kernel)) rfl
theorem lRX8_233 : Cond.methodLink RX8 233 (mN M_X8_isLast) ∈ TB := tb5 (List.mem_of_getElem? (i := 62) (by decide +kernel)) rfl
theorem lRL_89 : Cond.methodLink RL 89 (mN M_X8_best) ∈ TB := tb5 (List.mem_of_getElem? (i := 66) (by decide +kernel)) rfl
theorem lRL_93 : Cond.methodLink RL 93 (mN M_X8_warden) ∈ TB := tb5 (List.mem_of_getElem? (i := 70) (by decide +kernel)) rfl
theorem lRX8_236 : Cond.methodLink RX8 236 (mN M_X8_lines) ∈ TB := tb5 (List.mem_of_getElem? (i := 74) (by decide +kernel)) rfl
theorem lRX8_239 : Cond.methodLink RX8 239 (mN M_X8_waitedByLine) ∈ TB := tb5 (List.mem_of_getElem? (i := 78) (by decide +kernel)) rfl
theorem lRX8_242 : Cond.methodLink RX8 242 (mN M_X8_waited) ∈ TB := tb5 (List.mem_of_getElem? (i := 82) (by decide +kernel)) rfl
theorem lRL_97 : Cond.methodLink RL 97 (mN M_X8_frees) ∈ TB := tb5 (List.mem_of_getElem? (i := 83) (by decide +kernel)) rfl
theorem lRX8_245 : Cond.methodLink RX8 245 (mN M_X8_passedBy) ∈ TB := tb5 (List.mem_of_getElem? (i := 87) (by decide +kernel)) rfl
theorem lRL_101 : Cond.methodLink RL 101 (mN M_X8_ledger) ∈ TB := tb5 (List.mem_of_getElem? (i := 91) (by decide +kernel)) rfl
theorem lRL_105 : Cond.methodLink RL 105 (mN M_X8_image) ∈ TB := tb5 (List.mem_of_getElem? (i := 95) (by decide +kernel)) rfl
theorem lRL_109 : Cond.methodLink RL 109 (mN M_X8_restore) ∈ TB := tb5 (List.mem_of_getElem? (i := 99) (by decide +kernel)) rfl
theorem lRL_113 : Cond.methodLink RL 113 (mN M_X8_kind) ∈ TB := tb5 (List.mem_of_getElem? (i := 103) (by decide +kernel)) rfl
theorem lRL_117 : Cond.methodLink RL 117 (mN M_X8_as) ∈ TB := tb5 (List.mem_of_getElem? (i := 107) (by decide +kernel)) rfl
theorem lRL_121 : Cond.methodLink RL 121 (mN M_X8_ask) ∈ TB := tb5 (List.mem_of_getElem? (i := 111) (by decide +kernel)) rfl
theorem lRX8_257 : Cond.methodLink RX8 257 (mN M_X8_saintSize) ∈ TB := tb5 (List.mem_of_getElem? (i := 115) (by decide +kernel)) rfl
theorem lRX8_251 : Cond.methodLink RX8 251 (mN M_X8_begins) ∈ TB := tb5 (List.mem_of_getElem? (i := 119) (by decide +kernel)) rfl
theorem lRX8_260 : Cond.methodLink RX8 260 (mN M_X8_plainSize) ∈ TB := tb5 (List.mem_of_getElem? (i := 123) (by decide +kernel)) rfl
theorem lRX8_254 : Cond.methodLink RX8 254 (mN M_X8_plainMark) ∈ TB := tb5 (List.mem_of_getElem? (i := 127) (by decide +kernel)) rfl
theorem lRX8_263 : Cond.methodLink RX8 263 (mN M_X8_saintMark) ∈ TB := tb5 (List.mem_of_getElem? (i := 131) (by decide +kernel)) rfl
theorem lRL_125 : Cond.methodLink RL 125 (mN M_X8_trace) ∈ TB := tb5 (List.mem_of_getElem? (i := 135) (by decide +kernel)) rfl
theorem lRL_129 : Cond.methodLink RL 129 (mN M_X8_count) ∈ TB := tb5 (List.mem_of_getElem? (i := 139) (by decide +kernel)) rfl
theorem lRL_133 : Cond.methodLink RL 133 (mN M_X8_status) ∈ TB := tb5 (List.mem_of_getElem? (i := 143) (by decide +kernel)) rfl
theorem min_st : Cond.static Lib.Math.min.name ∈ TB := tb2 (List.mem_of_getElem? (i := 206) (by decide +kernel)) rfl
theorem min_in : Cond.initialized "java/lang/Math" ∈ TB := tb1 (List.mem_of_getElem? (i := 11) (by decide +kernel)) rfl
theorem min_co : Cond.code Lib.Math.min.name Lib.Math.min.code 2 (some .int) ∈ TB := tb2 (List.mem_of_getElem? (i := 207) (by decide +kernel)) rfl
theorem acp_na : Cond.native arraycopyName ∈ TB := tb2 (List.mem_of_getElem? (i := 82) (by decide +kernel)) rfl
theorem acp_st : Cond.static arraycopyName ∈ TB := tb2 (List.mem_of_getElem? (i := 81) (by decide +kernel)) rfl
theorem acp_in : Cond.initialized "java/lang/System" ∈ TB := tb1 (List.mem_of_getElem? (i := 10) (by decide +kernel)) rfl
def M_law : Mth := (RL, cL_law, 4, some .boolean, x)

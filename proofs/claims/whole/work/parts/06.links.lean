def mX9_init : zM := (yX9_init, cX9_init, 2, none, tX9_init)
def mX8_init : zM := (yX8_init, cX8_init, 1, none, tX8_init)
def mX4_init : zM := (yX4_init, cX4_init, 2, none, tX4_init)
def mX2_init : zM := (yX2_init, cX2_init, 1, none, tX2_init)
def mX3_init : zM := (yX3_init, cX3_init, 2, none, tX3_init)
def mX0_init : zM := (yX0_init, cX0_init, 2, none, tX0_init)
def mX5_init : zM := (yX5_init, cX5_init, 2, none, tX5_init)
def mX6_init : zM := (yX6_init, cX6_init, 2, none, tX6_init)
def mX1_init : zM := (yX1_init, cX1_init, 1, none, tX1_init)
def mX7_init : zM := (yX7_init, cX7_init, 2, none, tX7_init)
def mX8_add : zM := (yX8_add, cX8_add, 2, none, tX8_add)
def mX9_layText : zM := (yX9_layText, cX9_layText, 2, (some .int), tX9_layText)
def mX4_firstFault : zM := (yX4_firstFault, cX4_firstFault, 4, (some .int), tX4_firstFault)
def mX2_clear : zM := (yX2_clear, cX2_clear, 1, none, tX2_clear)
def mX4_readItem : zM := (yX4_readItem, cX4_readItem, 4, (some .boolean), tX4_readItem)
def mX8_letterAt : zM := (yX8_letterAt, cX8_letterAt, 2, (some .int), tX8_letterAt)
def mX4_readLines : zM := (yX4_readLines, cX4_readLines, 3, (some .boolean), tX4_readLines)
def mX4_number : zM := (yX4_number, cX4_number, 6, (some .int), tX4_number)
def mX8_figureAt : zM := (yX8_figureAt, cX8_figureAt, 3, (some .int), tX8_figureAt)
def mX4_readPower : zM := (yX4_readPower, cX4_readPower, 3, (some .boolean), tX4_readPower)
def mX4_readCore : zM := (yX4_readCore, cX4_readCore, 7, (some .boolean), tX4_readCore)
def mX4_row : zM := (yX4_row, cX4_row, 4, (some .int), tX4_row)
def mX4_readRule : zM := (yX4_readRule, cX4_readRule, 5, (some .boolean), tX4_readRule)
def mX2_layChains : zM := (yX2_layChains, cX2_layChains, 3, none, tX2_layChains)
def mX2_orderChains : zM := (yX2_orderChains, cX2_orderChains, 4, none, tX2_orderChains)
def mX2_layAt : zM := (yX2_layAt, cX2_layAt, 7, none, tX2_layAt)
def mX2_clearLoads : zM := (yX2_clearLoads, cX2_clearLoads, 2, none, tX2_clearLoads)
def mX2_leastLoaded : zM := (yX2_leastLoaded, cX2_leastLoaded, 4, (some .int), tX2_leastLoaded)
def mX3_startOver : zM := (yX3_startOver, cX3_startOver, 3, none, tX3_startOver)
def mX3_takeOff : zM := (yX3_takeOff, cX3_takeOff, 2, none, tX3_takeOff)
def mX5_forgetAll : zM := (yX5_forgetAll, cX5_forgetAll, 2, none, tX5_forgetAll)
def mX6_clear : zM := (yX6_clear, cX6_clear, 1, none, tX6_clear)
def mX1_clear : zM := (yX1_clear, cX1_clear, 1, none, tX1_clear)
def mX7_clear : zM := (yX7_clear, cX7_clear, 1, none, tX7_clear)
def mX8_clear : zM := (yX8_clear, cX8_clear, 1, none, tX8_clear)
def mX10_init : zM := (yX10_init, cX10_init, 1, none, tX10_init)
def mX10_tell : zM := (yX10_tell, cX10_tell, 11, none, tX10_tell)
def mX10_takeCores : zM := (yX10_takeCores, cX10_takeCores, 3, none, tX10_takeCores)
def mX9_write : zM := (yX9_write, cX9_write, 2, (some .int), tX9_write)
def mX10_write : zM := (yX10_write, cX10_write, 2, (some .int), tX10_write)
def mX10_in : zM := (yX10_in, cX10_in, 6, (some .boolean), tX10_in)
def mX9_wipe : zM := (yX9_wipe, cX9_wipe, 2, (some .int), tX9_wipe)
def mX10_wipe : zM := (yX10_wipe, cX10_wipe, 2, (some .int), tX10_wipe)
def mX9_fault : zM := (yX9_fault, cX9_fault, 1, (some .int), tX9_fault)
def mX10_fault : zM := (yX10_fault, cX10_fault, 2, (some .int), tX10_fault)
def mX10_takesItem : zM := (yX10_takesItem, cX10_takesItem, 3, (some .boolean), tX10_takesItem)
def mX10_letter : zM := (yX10_letter, cX10_letter, 1, (some .int), tX10_letter)
def mX10_takesNumber : zM := (yX10_takesNumber, cX10_takesNumber, 4, (some .boolean), tX10_takesNumber)
def mX10_isSign : zM := (yX10_isSign, cX10_isSign, 3, (some .boolean), tX10_isSign)
def mX10_takesCore : zM := (yX10_takesCore, cX10_takesCore, 2, (some .boolean), tX10_takesCore)
def mX10_takesRow : zM := (yX10_takesRow, cX10_takesRow, 3, (some .boolean), tX10_takesRow)
def mX10_takesRule : zM := (yX10_takesRule, cX10_takesRule, 1, (some .boolean), tX10_takesRule)
def mX9_lay : zM := (yX9_lay, cX9_lay, 1, (some .int), tX9_lay)
def mX10_lay : zM := (yX10_lay, cX10_lay, 2, (some .int), tX10_lay)
def mX9_core : zM := (yX9_core, cX9_core, 3, (some .int), tX9_core)
def mX9_isCore : zM := (yX9_isCore, cX9_isCore, 2, (some .boolean), tX9_isCore)
def mX3_isPut : zM := (yX3_isPut, cX3_isPut, 2, (some .boolean), tX3_isPut)
def mX3_stairs : zM := (yX3_stairs, cX3_stairs, 5, (some .int), tX3_stairs)
def mX3_takes : zM := (yX3_takes, cX3_takes, 3, (some .int), tX3_takes)
def mX2_takes : zM := (yX2_takes, cX2_takes, 8, (some .int), tX2_takes)
def mX10_core : zM := (yX10_core, cX10_core, 3, (some .int), tX10_core)
def mX10_isCore : zM := (yX10_isCore, cX10_isCore, 2, (some .boolean), tX10_isCore)
def mX10_isPut : zM := (yX10_isPut, cX10_isPut, 2, (some .boolean), tX10_isPut)
def mX10_stairsOf : zM := (yX10_stairsOf, cX10_stairsOf, 5, (some .int), tX10_stairsOf)
def mX10_layTakes : zM := (yX10_layTakes, cX10_layTakes, 3, none, tX10_layTakes)
def mX10_takesBy : zM := (yX10_takesBy, cX10_takesBy, 8, (some .int), tX10_takesBy)
def mX10_wrapOf : zM := (yX10_wrapOf, cX10_wrapOf, 8, (some .int), tX10_wrapOf)
def mX9_chain : zM := (yX9_chain, cX9_chain, 3, (some .int), tX9_chain)
def mX10_chain : zM := (yX10_chain, cX10_chain, 3, (some .int), tX10_chain)
def mX9_wrap : zM := (yX9_wrap, cX9_wrap, 4, (some .int), tX9_wrap)
def mX9_isWidth : zM := (yX9_isWidth, cX9_isWidth, 2, (some .boolean), tX9_isWidth)
def mX2_idealLoad : zM := (yX2_idealLoad, cX2_idealLoad, 3, (some .int), tX2_idealLoad)
def mX2_leastLoad : zM := (yX2_leastLoad, cX2_leastLoad, 10, (some .int), tX2_leastLoad)
def mX10_wrap : zM := (yX10_wrap, cX10_wrap, 4, (some .int), tX10_wrap)
def mX10_isWidth : zM := (yX10_isWidth, cX10_isWidth, 2, (some .boolean), tX10_isWidth)
def mX10_idealOf : zM := (yX10_idealOf, cX10_idealOf, 12, (some .int), tX10_idealOf)
def mX9_line : zM := (yX9_line, cX9_line, 4, (some .int), tX9_line)
def mX10_line : zM := (yX10_line, cX10_line, 5, (some .int), tX10_line)
def mX9_put : zM := (yX9_put, cX9_put, 5, (some .int), tX9_put)
def mX9_isCycle : zM := (yX9_isCycle, cX9_isCycle, 1, (some .boolean), tX9_isCycle)
def mX3_reason : zM := (yX3_reason, cX3_reason, 5, (some .int), tX3_reason)
def mX3_notDoneAhead : zM := (yX3_notDoneAhead, cX3_notDoneAhead, 4, (some .int), tX3_notDoneAhead)
def mX3_begunBehind : zM := (yX3_begunBehind, cX3_begunBehind, 4, (some .int), tX3_begunBehind)
def mX3_firstOver : zM := (yX3_firstOver, cX3_firstOver, 9, (some .int), tX3_firstOver)
def mX3_used : zM := (yX3_used, cX3_used, 5, (some .int), tX3_used)
def mX3_toldBy : zM := (yX3_toldBy, cX3_toldBy, 6, (some .int), tX3_toldBy)
def mX1_ofPut : zM := (yX1_ofPut, cX1_ofPut, 4, none, tX1_ofPut)
def mX1_addThree : zM := (yX1_addThree, cX1_addThree, 4, none, tX1_addThree)
def mX9_remember : zM := (yX9_remember, cX9_remember, 1, none, tX9_remember)
def mX3_writeTo : zM := (yX3_writeTo, cX3_writeTo, 2, none, tX3_writeTo)
def mX6_push : zM := (yX6_push, cX6_push, 4, none, tX6_push)
def mX3_place : zM := (yX3_place, cX3_place, 4, none, tX3_place)
def mX3_length : zM := (yX3_length, cX3_length, 3, (some .int), tX3_length)
def mX10_put : zM := (yX10_put, cX10_put, 4, (some .int), tX10_put)
def mX10_judge : zM := (yX10_judge, cX10_judge, 7, (some .int), tX10_judge)
def mX10_isAhead : zM := (yX10_isAhead, cX10_isAhead, 6, (some .boolean), tX10_isAhead)
def mX10_endOf : zM := (yX10_endOf, cX10_endOf, 2, (some .int), tX10_endOf)
def mX10_isTooMuch : zM := (yX10_isTooMuch, cX10_isTooMuch, 10, (some .boolean), tX10_isTooMuch)
def mX10_runsIn : zM := (yX10_runsIn, cX10_runsIn, 6, (some .int), tX10_runsIn)
def mX10_note : zM := (yX10_note, cX10_note, 2, none, tX10_note)
def mX10_putAt : zM := (yX10_putAt, cX10_putAt, 4, none, tX10_putAt)
def mX10_lengthOf : zM := (yX10_lengthOf, cX10_lengthOf, 3, (some .int), tX10_lengthOf)
def mX9_take : zM := (yX9_take, cX9_take, 2, (some .int), tX9_take)
def mX10_take : zM := (yX10_take, cX10_take, 2, (some .int), tX10_take)
def mX9_fill : zM := (yX9_fill, cX9_fill, 3, (some .int), tX9_fill)
def mX3_placeDoneFirst : zM := (yX3_placeDoneFirst, cX3_placeDoneFirst, 10, (some .boolean), tX3_placeDoneFirst)
def mX3_firstNotRefused : zM := (yX3_firstNotRefused, cX3_firstNotRefused, 8, (some .int), tX3_firstNotRefused)
def mX9_stuck : zM := (yX9_stuck, cX9_stuck, 5, none, tX9_stuck)
def mX1_ofFill : zM := (yX1_ofFill, cX1_ofFill, 5, none, tX1_ofFill)
def mX3_readFrom : zM := (yX3_readFrom, cX3_readFrom, 2, none, tX3_readFrom)
def mX10_fill : zM := (yX10_fill, cX10_fill, 3, (some .int), tX10_fill)
def mX10_putAside : zM := (yX10_putAside, cX10_putAside, 3, none, tX10_putAside)
def mX10_nextCore : zM := (yX10_nextCore, cX10_nextCore, 4, (some .int), tX10_nextCore)
def mX10_fills : zM := (yX10_fills, cX10_fills, 8, (some .boolean), tX10_fills)
def mX10_soonestOf : zM := (yX10_soonestOf, cX10_soonestOf, 7, (some .int), tX10_soonestOf)
def mX10_keepFilled : zM := (yX10_keepFilled, cX10_keepFilled, 2, none, tX10_keepFilled)
def mX9_rename : zM := (yX9_rename, cX9_rename, 4, (some .int), tX9_rename)
def mX10_rename : zM := (yX10_rename, cX10_rename, 4, (some .int), tX10_rename)
def mX9_undo : zM := (yX9_undo, cX9_undo, 1, (some .int), tX9_undo)
def mX6_popInto : zM := (yX6_popInto, cX6_popInto, 2, (some .boolean), tX6_popInto)
def mX10_undo : zM := (yX10_undo, cX10_undo, 2, (some .int), tX10_undo)
def mX9_why : zM := (yX9_why, cX9_why, 2, (some .int), tX9_why)
def mX1_number : zM := (yX1_number, cX1_number, 2, (some .int), tX1_number)
def mX10_why : zM := (yX10_why, cX10_why, 2, (some .int), tX10_why)
def mX9_soonest : zM := (yX9_soonest, cX9_soonest, 3, (some .int), tX9_soonest)
def mX10_soonest : zM := (yX10_soonest, cX10_soonest, 3, (some .int), tX10_soonest)
def mX9_runs : zM := (yX9_runs, cX9_runs, 3, (some .int), tX9_runs)
def mX10_runs : zM := (yX10_runs, cX10_runs, 3, (some .int), tX10_runs)
def mX9_bound : zM := (yX9_bound, cX9_bound, 2, (some .int), tX9_bound)
def mX0_area : zM := (yX0_area, cX0_area, 6, (some .int), tX0_area)
def mX0_upward : zM := (yX0_upward, cX0_upward, 2, (some .int), tX0_upward)
def mX0_path : zM := (yX0_path, cX0_path, 6, (some .int), tX0_path)
def mX3_leastTaken : zM := (yX3_leastTaken, cX3_leastTaken, 4, (some .int), tX3_leastTaken)
def mX0_drawn : zM := (yX0_drawn, cX0_drawn, 4, (some .int), tX0_drawn)
def mX0_greatest : zM := (yX0_greatest, cX0_greatest, 2, (some .int), tX0_greatest)
def mX10_bound : zM := (yX10_bound, cX10_bound, 6, (some .int), tX10_bound)
def mX10_areaOf : zM := (yX10_areaOf, cX10_areaOf, 6, (some .int), tX10_areaOf)
def mX10_upward : zM := (yX10_upward, cX10_upward, 2, (some .int), tX10_upward)
def mX10_pathOf : zM := (yX10_pathOf, cX10_pathOf, 5, (some .int), tX10_pathOf)
def mX10_leastTakes : zM := (yX10_leastTakes, cX10_leastTakes, 4, (some .int), tX10_leastTakes)
def mX10_drawnOf : zM := (yX10_drawnOf, cX10_drawnOf, 3, (some .int), tX10_drawnOf)
def mX9_best : zM := (yX9_best, cX9_best, 3, (some .int), tX9_best)
def mX5_leastLength : zM := (yX5_leastLength, cX5_leastLength, 5, (some .int), tX5_leastLength)
def mX5_tryAll : zM := (yX5_tryAll, cX5_tryAll, 5, none, tX5_tryAll)
def mX5_placedAt : zM := (yX5_placedAt, cX5_placedAt, 2, (some .int), tX5_placedAt)
def mX10_best : zM := (yX10_best, cX10_best, 3, (some .int), tX10_best)
def mX10_bestBy : zM := (yX10_bestBy, cX10_bestBy, 5, (some .int), tX10_bestBy)
def mX10_goOrder : zM := (yX10_goOrder, cX10_goOrder, 3, (some .int), tX10_goOrder)
def mX10_nextOrder : zM := (yX10_nextOrder, cX10_nextOrder, 5, (some .boolean), tX10_nextOrder)
def mX10_swap : zM := (yX10_swap, cX10_swap, 4, none, tX10_swap)
def mX9_costs : zM := (yX9_costs, cX9_costs, 4, (some .int), tX9_costs)
def mX10_costs : zM := (yX10_costs, cX10_costs, 3, (some .int), tX10_costs)
def mX9_seen : zM := (yX9_seen, cX9_seen, 4, (some .int), tX9_seen)
def mX7_add : zM := (yX7_add, cX7_add, 4, none, tX7_add)
def mX10_seen : zM := (yX10_seen, cX10_seen, 4, (some .int), tX10_seen)
def mX9_forget : zM := (yX9_forget, cX9_forget, 2, (some .int), tX9_forget)
def mX10_forget : zM := (yX10_forget, cX10_forget, 2, (some .int), tX10_forget)
def mX9_kinds : zM := (yX9_kinds, cX9_kinds, 2, (some .int), tX9_kinds)
def mX7_kindsOf : zM := (yX7_kindsOf, cX7_kindsOf, 4, (some .int), tX7_kindsOf)
def mX7_agree : zM := (yX7_agree, cX7_agree, 4, (some .boolean), tX7_agree)
def mX10_kinds : zM := (yX10_kinds, cX10_kinds, 6, (some .int), tX10_kinds)
def mX9_keep : zM := (yX9_keep, cX9_keep, 1, (some .int), tX9_keep)
def mX10_keep : zM := (yX10_keep, cX10_keep, 2, (some .int), tX10_keep)
def mX9_back : zM := (yX9_back, cX9_back, 1, (some .int), tX9_back)
def mX10_back : zM := (yX10_back, cX10_back, 2, (some .int), tX10_back)
def mX9_count : zM := (yX9_count, cX9_count, 2, (some .int), tX9_count)
def mX3_manyPut : zM := (yX3_manyPut, cX3_manyPut, 3, (some .int), tX3_manyPut)
def mX10_count : zM := (yX10_count, cX10_count, 2, (some .int), tX10_count)
def mX10_putMany : zM := (yX10_putMany, cX10_putMany, 3, (some .int), tX10_putMany)
def mX10_lengthNow : zM := (yX10_lengthNow, cX10_lengthNow, 1, (some .int), tX10_lengthNow)
theorem fX9_12 : zFd RX9 12 9 0 := ⟨RX9, TX9, 12, rfl, by decide, inlX9, wsL_law_r1_l (List.mem_of_getElem? (i := 15) rfl)⟩
theorem fX9_21 : zFd RX9 21 9 1 := ⟨RX9, TX9, 12, rfl, by decide, inlX9, wsL_law_r1_l (List.mem_of_getElem? (i := 19) rfl)⟩
theorem fX9_28 : zFd RX9 28 9 2 := ⟨RX9, TX9, 12, rfl, by decide, inlX9, wsL_law_r1_l (List.mem_of_getElem? (i := 23) rfl)⟩
theorem fX9_32 : zFd RX9 32 9 3 := ⟨RX9, TX9, 12, rfl, by decide, inlX9, wsL_law_r2_l (List.mem_of_getElem? (i := 0) rfl)⟩
theorem fX9_40 : zFd RX9 40 9 4 := ⟨RX9, TX9, 12, rfl, by decide, inlX9, wsL_law_r2_l (List.mem_of_getElem? (i := 4) rfl)⟩
theorem fX9_47 : zFd RX9 47 9 5 := ⟨RX9, TX9, 12, rfl, by decide, inlX9, wsL_law_r2_l (List.mem_of_getElem? (i := 8) rfl)⟩
theorem fX9_54 : zFd RX9 54 9 6 := ⟨RX9, TX9, 12, rfl, by decide, inlX9, wsL_law_r2_l (List.mem_of_getElem? (i := 12) rfl)⟩
theorem fX9_58 : zFd RX9 58 9 7 := ⟨RX9, TX9, 12, rfl, by decide, inlX9, wsL_law_r2_l (List.mem_of_getElem? (i := 14) rfl)⟩
theorem fX9_67 : zFd RX9 67 9 8 := ⟨RX9, TX9, 12, rfl, by decide, inlX9, wsL_law_r2_l (List.mem_of_getElem? (i := 18) rfl)⟩
theorem fX9_71 : zFd RX9 71 9 9 := ⟨RX9, TX9, 12, rfl, by decide, inlX9, wsL_law_r2_l (List.mem_of_getElem? (i := 19) rfl)⟩
theorem fX9_77 : zFd RX9 77 9 10 := ⟨RX9, TX9, 12, rfl, by decide, inlX9, wsL_law_r2_l (List.mem_of_getElem? (i := 23) rfl)⟩
theorem fX9_84 : zFd RX9 84 9 11 := ⟨RX9, TX9, 12, rfl, by decide, inlX9, wsL_law_r3_l (List.mem_of_getElem? (i := 3) rfl)⟩
theorem fX8_9 : zFd RX8 9 8 0 := ⟨RX8, TX8, 2, rfl, by decide, inlX8, wsL_law_r3_l (List.mem_of_getElem? (i := 7) rfl)⟩
theorem fX8_15 : zFd RX8 15 8 1 := ⟨RX8, TX8, 2, rfl, by decide, inlX8, wsL_law_r3_l (List.mem_of_getElem? (i := 8) rfl)⟩
theorem fX4_9 : zFd RX4 9 4 1 := ⟨RX4, TX4, 2, rfl, by decide, inlX4, wsL_law_r3_l (List.mem_of_getElem? (i := 13) rfl)⟩
theorem fX4_15 : zFd RX4 15 4 0 := ⟨RX4, TX4, 2, rfl, by decide, inlX4, wsL_law_r3_l (List.mem_of_getElem? (i := 14) rfl)⟩
theorem fX2_9 : zFd RX2 9 2 4 := ⟨RX2, TX2, 15, rfl, by decide, inlX2, wsL_law_r3_l (List.mem_of_getElem? (i := 18) rfl)⟩
theorem fX2_15 : zFd RX2 15 2 5 := ⟨RX2, TX2, 15, rfl, by decide, inlX2, wsL_law_r3_l (List.mem_of_getElem? (i := 19) rfl)⟩
theorem fX2_18 : zFd RX2 18 2 6 := ⟨RX2, TX2, 15, rfl, by decide, inlX2, wsL_law_r3_l (List.mem_of_getElem? (i := 20) rfl)⟩
theorem fX2_21 : zFd RX2 21 2 7 := ⟨RX2, TX2, 15, rfl, by decide, inlX2, wsL_law_r3_l (List.mem_of_getElem? (i := 21) rfl)⟩
theorem fX2_26 : zFd RX2 26 2 8 := ⟨RX2, TX2, 15, rfl, by decide, inlX2, wsL_law_r3_l (List.mem_of_getElem? (i := 23) rfl)⟩
theorem fX2_29 : zFd RX2 29 2 9 := ⟨RX2, TX2, 15, rfl, by decide, inlX2, wsL_law_r4_l (List.mem_of_getElem? (i := 0) rfl)⟩
theorem fX2_32 : zFd RX2 32 2 10 := ⟨RX2, TX2, 15, rfl, by decide, inlX2, wsL_law_r4_l (List.mem_of_getElem? (i := 1) rfl)⟩
theorem fX2_35 : zFd RX2 35 2 11 := ⟨RX2, TX2, 15, rfl, by decide, inlX2, wsL_law_r4_l (List.mem_of_getElem? (i := 2) rfl)⟩
theorem fX2_38 : zFd RX2 38 2 12 := ⟨RX2, TX2, 15, rfl, by decide, inlX2, wsL_law_r4_l (List.mem_of_getElem? (i := 3) rfl)⟩
theorem fX2_41 : zFd RX2 41 2 13 := ⟨RX2, TX2, 15, rfl, by decide, inlX2, wsL_law_r4_l (List.mem_of_getElem? (i := 4) rfl)⟩
theorem fX2_44 : zFd RX2 44 2 14 := ⟨RX2, TX2, 15, rfl, by decide, inlX2, wsL_law_r4_l (List.mem_of_getElem? (i := 5) rfl)⟩
theorem fX3_9 : zFd RX3 9 3 1 := ⟨RX3, TX3, 6, rfl, by decide, inlX3, wsL_law_r4_l (List.mem_of_getElem? (i := 10) rfl)⟩
theorem fX3_15 : zFd RX3 15 3 2 := ⟨RX3, TX3, 6, rfl, by decide, inlX3, wsL_law_r4_l (List.mem_of_getElem? (i := 11) rfl)⟩
theorem fX3_18 : zFd RX3 18 3 3 := ⟨RX3, TX3, 6, rfl, by decide, inlX3, wsL_law_r4_l (List.mem_of_getElem? (i := 12) rfl)⟩
theorem fX3_21 : zFd RX3 21 3 4 := ⟨RX3, TX3, 6, rfl, by decide, inlX3, wsL_law_r4_l (List.mem_of_getElem? (i := 13) rfl)⟩
theorem fX3_24 : zFd RX3 24 3 5 := ⟨RX3, TX3, 6, rfl, by decide, inlX3, wsL_law_r4_l (List.mem_of_getElem? (i := 14) rfl)⟩
theorem fX3_27 : zFd RX3 27 3 0 := ⟨RX3, TX3, 6, rfl, by decide, inlX3, wsL_law_r4_l (List.mem_of_getElem? (i := 15) rfl)⟩
theorem fX0_9 : zFd RX0 9 0 1 := ⟨RX0, TX0, 2, rfl, by decide, inlX0, wsL_law_r4_l (List.mem_of_getElem? (i := 20) rfl)⟩
theorem fX0_15 : zFd RX0 15 0 0 := ⟨RX0, TX0, 2, rfl, by decide, inlX0, wsL_law_r4_l (List.mem_of_getElem? (i := 21) rfl)⟩
theorem fX5_9 : zFd RX5 9 5 3 := ⟨RX5, TX5, 10, rfl, by decide, inlX5, wsL_law_r5_l (List.mem_of_getElem? (i := 2) rfl)⟩
theorem fX5_17 : zFd RX5 17 5 4 := ⟨RX5, TX5, 10, rfl, by decide, inlX5, wsL_law_r5_l (List.mem_of_getElem? (i := 4) rfl)⟩
theorem fX5_20 : zFd RX5 20 5 5 := ⟨RX5, TX5, 10, rfl, by decide, inlX5, wsL_law_r5_l (List.mem_of_getElem? (i := 5) rfl)⟩
theorem fX5_23 : zFd RX5 23 5 6 := ⟨RX5, TX5, 10, rfl, by decide, inlX5, wsL_law_r5_l (List.mem_of_getElem? (i := 6) rfl)⟩
theorem fX5_26 : zFd RX5 26 5 7 := ⟨RX5, TX5, 10, rfl, by decide, inlX5, wsL_law_r5_l (List.mem_of_getElem? (i := 7) rfl)⟩
theorem fX5_31 : zFd RX5 31 5 8 := ⟨RX5, TX5, 10, rfl, by decide, inlX5, wsL_law_r5_l (List.mem_of_getElem? (i := 9) rfl)⟩
theorem fX5_34 : zFd RX5 34 5 9 := ⟨RX5, TX5, 10, rfl, by decide, inlX5, wsL_law_r5_l (List.mem_of_getElem? (i := 10) rfl)⟩
theorem fX5_37 : zFd RX5 37 5 0 := ⟨RX5, TX5, 10, rfl, by decide, inlX5, wsL_law_r5_l (List.mem_of_getElem? (i := 11) rfl)⟩
theorem fX5_46 : zFd RX5 46 5 1 := ⟨RX5, TX5, 10, rfl, by decide, inlX5, wsL_law_r5_l (List.mem_of_getElem? (i := 13) rfl)⟩
theorem fX5_53 : zFd RX5 53 5 2 := ⟨RX5, TX5, 10, rfl, by decide, inlX5, wsL_law_r5_l (List.mem_of_getElem? (i := 15) rfl)⟩
theorem fX6_9 : zFd RX6 9 6 1 := ⟨RX6, TX6, 2, rfl, by decide, inlX6, wsL_law_r5_l (List.mem_of_getElem? (i := 22) rfl)⟩
theorem fX6_23 : zFd RX6 23 6 0 := ⟨RX6, TX6, 2, rfl, by decide, inlX6, wsL_law_r6_l (List.mem_of_getElem? (i := 4) rfl)⟩
theorem fX1_9 : zFd RX1 9 1 0 := ⟨RX1, TX1, 2, rfl, by decide, inlX1, wsL_law_r6_l (List.mem_of_getElem? (i := 8) rfl)⟩
theorem fX1_15 : zFd RX1 15 1 1 := ⟨RX1, TX1, 2, rfl, by decide, inlX1, wsL_law_r6_l (List.mem_of_getElem? (i := 9) rfl)⟩
theorem fX7_9 : zFd RX7 9 7 1 := ⟨RX7, TX7, 5, rfl, by decide, inlX7, wsL_law_r6_l (List.mem_of_getElem? (i := 14) rfl)⟩
theorem fX7_15 : zFd RX7 15 7 2 := ⟨RX7, TX7, 5, rfl, by decide, inlX7, wsL_law_r6_l (List.mem_of_getElem? (i := 15) rfl)⟩
theorem fX7_18 : zFd RX7 18 7 3 := ⟨RX7, TX7, 5, rfl, by decide, inlX7, wsL_law_r6_l (List.mem_of_getElem? (i := 16) rfl)⟩
theorem fX7_21 : zFd RX7 21 7 4 := ⟨RX7, TX7, 5, rfl, by decide, inlX7, wsL_law_r6_l (List.mem_of_getElem? (i := 17) rfl)⟩
theorem fX7_25 : zFd RX7 25 7 0 := ⟨RX7, TX7, 5, rfl, by decide, inlX7, wsL_law_r6_l (List.mem_of_getElem? (i := 18) rfl)⟩
theorem fX9_194 : zFd RX9 194 2 2 := ⟨RX2, TX2, 15, rfl, by decide, inlX2, wsL_law_r9_l (List.mem_of_getElem? (i := 4) rfl)⟩
theorem fX9_120 : zFd RX9 120 3 1 := ⟨RX3, TX3, 6, rfl, by decide, inlX3, wsL_law_r9_l (List.mem_of_getElem? (i := 5) rfl)⟩
theorem fX9_276 : zFd RX9 276 2 4 := ⟨RX2, TX2, 15, rfl, by decide, inlX2, wsL_law_r9_l (List.mem_of_getElem? (i := 6) rfl)⟩
theorem fX4_24 : zFd RX4 24 8 1 := ⟨RX8, TX8, 2, rfl, by decide, inlX8, wsL_law_r9_l (List.mem_of_getElem? (i := 11) rfl)⟩
theorem fX2_47 : zFd RX2 47 2 0 := ⟨RX2, TX2, 15, rfl, by decide, inlX2, wsL_law_r9_l (List.mem_of_getElem? (i := 16) rfl)⟩
theorem fX2_51 : zFd RX2 51 2 1 := ⟨RX2, TX2, 15, rfl, by decide, inlX2, wsL_law_r9_l (List.mem_of_getElem? (i := 17) rfl)⟩
theorem fX2_54 : zFd RX2 54 2 2 := ⟨RX2, TX2, 15, rfl, by decide, inlX2, wsL_law_r9_l (List.mem_of_getElem? (i := 18) rfl)⟩
theorem fX2_57 : zFd RX2 57 2 3 := ⟨RX2, TX2, 15, rfl, by decide, inlX2, wsL_law_r9_l (List.mem_of_getElem? (i := 19) rfl)⟩
theorem fX4_53 : zFd RX4 53 2 0 := ⟨RX2, TX2, 15, rfl, by decide, inlX2, wsL_law_r10_l (List.mem_of_getElem? (i := 8) rfl)⟩
theorem fX4_56 : zFd RX4 56 2 1 := ⟨RX2, TX2, 15, rfl, by decide, inlX2, wsL_law_r10_l (List.mem_of_getElem? (i := 21) rfl)⟩
theorem fX4_59 : zFd RX4 59 2 2 := ⟨RX2, TX2, 15, rfl, by decide, inlX2, wsL_law_r11_l (List.mem_of_getElem? (i := 2) rfl)⟩
theorem fX4_62 : zFd RX4 62 2 8 := ⟨RX2, TX2, 15, rfl, by decide, inlX2, wsL_law_r11_l (List.mem_of_getElem? (i := 3) rfl)⟩
theorem fX4_70 : zFd RX4 70 2 4 := ⟨RX2, TX2, 15, rfl, by decide, inlX2, wsL_law_r11_l (List.mem_of_getElem? (i := 4) rfl)⟩
theorem fX4_74 : zFd RX4 74 2 5 := ⟨RX2, TX2, 15, rfl, by decide, inlX2, wsL_law_r11_l (List.mem_of_getElem? (i := 5) rfl)⟩
theorem fX4_77 : zFd RX4 77 2 6 := ⟨RX2, TX2, 15, rfl, by decide, inlX2, wsL_law_r11_l (List.mem_of_getElem? (i := 6) rfl)⟩
theorem fX4_80 : zFd RX4 80 2 7 := ⟨RX2, TX2, 15, rfl, by decide, inlX2, wsL_law_r11_l (List.mem_of_getElem? (i := 7) rfl)⟩
theorem fX4_83 : zFd RX4 83 2 3 := ⟨RX2, TX2, 15, rfl, by decide, inlX2, wsL_law_r11_l (List.mem_of_getElem? (i := 16) rfl)⟩
theorem fX4_86 : zFd RX4 86 2 9 := ⟨RX2, TX2, 15, rfl, by decide, inlX2, wsL_law_r11_l (List.mem_of_getElem? (i := 17) rfl)⟩
theorem fX4_89 : zFd RX4 89 2 10 := ⟨RX2, TX2, 15, rfl, by decide, inlX2, wsL_law_r11_l (List.mem_of_getElem? (i := 18) rfl)⟩
theorem fX3_35 : zFd RX3 35 2 3 := ⟨RX2, TX2, 15, rfl, by decide, inlX2, wsL_law_r12_l (List.mem_of_getElem? (i := 20) rfl)⟩
theorem fX3_41 : zFd RX3 41 2 10 := ⟨RX2, TX2, 15, rfl, by decide, inlX2, wsL_law_r12_l (List.mem_of_getElem? (i := 21) rfl)⟩
theorem fX3_44 : zFd RX3 44 2 9 := ⟨RX2, TX2, 15, rfl, by decide, inlX2, wsL_law_r12_l (List.mem_of_getElem? (i := 22) rfl)⟩
theorem fX10_7 : zFd RX10 7 10 4 := ⟨RX10, TX10, 44, rfl, by decide, inlX10, wsL_law_r14_l (List.mem_of_getElem? (i := 3) rfl)⟩
theorem fX10_13 : zFd RX10 13 10 5 := ⟨RX10, TX10, 44, rfl, by decide, inlX10, wsL_law_r14_l (List.mem_of_getElem? (i := 4) rfl)⟩
theorem fX10_16 : zFd RX10 16 10 6 := ⟨RX10, TX10, 44, rfl, by decide, inlX10, wsL_law_r14_l (List.mem_of_getElem? (i := 5) rfl)⟩
theorem fX10_19 : zFd RX10 19 10 7 := ⟨RX10, TX10, 44, rfl, by decide, inlX10, wsL_law_r14_l (List.mem_of_getElem? (i := 6) rfl)⟩
theorem fX10_22 : zFd RX10 22 10 8 := ⟨RX10, TX10, 44, rfl, by decide, inlX10, wsL_law_r14_l (List.mem_of_getElem? (i := 7) rfl)⟩
theorem fX10_25 : zFd RX10 25 10 9 := ⟨RX10, TX10, 44, rfl, by decide, inlX10, wsL_law_r14_l (List.mem_of_getElem? (i := 8) rfl)⟩
theorem fX10_28 : zFd RX10 28 10 10 := ⟨RX10, TX10, 44, rfl, by decide, inlX10, wsL_law_r14_l (List.mem_of_getElem? (i := 9) rfl)⟩
theorem fX10_31 : zFd RX10 31 10 11 := ⟨RX10, TX10, 44, rfl, by decide, inlX10, wsL_law_r14_l (List.mem_of_getElem? (i := 10) rfl)⟩
theorem fX10_34 : zFd RX10 34 10 13 := ⟨RX10, TX10, 44, rfl, by decide, inlX10, wsL_law_r14_l (List.mem_of_getElem? (i := 11) rfl)⟩
theorem fX10_37 : zFd RX10 37 10 15 := ⟨RX10, TX10, 44, rfl, by decide, inlX10, wsL_law_r14_l (List.mem_of_getElem? (i := 12) rfl)⟩
theorem fX10_40 : zFd RX10 40 10 17 := ⟨RX10, TX10, 44, rfl, by decide, inlX10, wsL_law_r14_l (List.mem_of_getElem? (i := 13) rfl)⟩
theorem fX10_43 : zFd RX10 43 10 19 := ⟨RX10, TX10, 44, rfl, by decide, inlX10, wsL_law_r14_l (List.mem_of_getElem? (i := 14) rfl)⟩
theorem fX10_46 : zFd RX10 46 10 27 := ⟨RX10, TX10, 44, rfl, by decide, inlX10, wsL_law_r14_l (List.mem_of_getElem? (i := 15) rfl)⟩
theorem fX10_49 : zFd RX10 49 10 28 := ⟨RX10, TX10, 44, rfl, by decide, inlX10, wsL_law_r14_l (List.mem_of_getElem? (i := 16) rfl)⟩
theorem fX10_52 : zFd RX10 52 10 29 := ⟨RX10, TX10, 44, rfl, by decide, inlX10, wsL_law_r14_l (List.mem_of_getElem? (i := 17) rfl)⟩
theorem fX10_55 : zFd RX10 55 10 30 := ⟨RX10, TX10, 44, rfl, by decide, inlX10, wsL_law_r14_l (List.mem_of_getElem? (i := 18) rfl)⟩
theorem fX10_58 : zFd RX10 58 10 31 := ⟨RX10, TX10, 44, rfl, by decide, inlX10, wsL_law_r14_l (List.mem_of_getElem? (i := 19) rfl)⟩
theorem fX10_61 : zFd RX10 61 10 32 := ⟨RX10, TX10, 44, rfl, by decide, inlX10, wsL_law_r14_l (List.mem_of_getElem? (i := 20) rfl)⟩
theorem fX10_64 : zFd RX10 64 10 33 := ⟨RX10, TX10, 44, rfl, by decide, inlX10, wsL_law_r14_l (List.mem_of_getElem? (i := 21) rfl)⟩
theorem fX10_67 : zFd RX10 67 10 34 := ⟨RX10, TX10, 44, rfl, by decide, inlX10, wsL_law_r14_l (List.mem_of_getElem? (i := 22) rfl)⟩
theorem fX10_70 : zFd RX10 70 10 35 := ⟨RX10, TX10, 44, rfl, by decide, inlX10, wsL_law_r14_l (List.mem_of_getElem? (i := 23) rfl)⟩
theorem fX10_73 : zFd RX10 73 10 36 := ⟨RX10, TX10, 44, rfl, by decide, inlX10, wsL_law_r15_l (List.mem_of_getElem? (i := 0) rfl)⟩
theorem fX10_76 : zFd RX10 76 10 39 := ⟨RX10, TX10, 44, rfl, by decide, inlX10, wsL_law_r15_l (List.mem_of_getElem? (i := 1) rfl)⟩
theorem fX10_79 : zFd RX10 79 10 40 := ⟨RX10, TX10, 44, rfl, by decide, inlX10, wsL_law_r15_l (List.mem_of_getElem? (i := 2) rfl)⟩
theorem fX10_82 : zFd RX10 82 10 41 := ⟨RX10, TX10, 44, rfl, by decide, inlX10, wsL_law_r15_l (List.mem_of_getElem? (i := 3) rfl)⟩
theorem fX10_85 : zFd RX10 85 10 42 := ⟨RX10, TX10, 44, rfl, by decide, inlX10, wsL_law_r15_l (List.mem_of_getElem? (i := 4) rfl)⟩
theorem fX10_88 : zFd RX10 88 10 43 := ⟨RX10, TX10, 44, rfl, by decide, inlX10, wsL_law_r15_l (List.mem_of_getElem? (i := 5) rfl)⟩
theorem fX10_91 : zFd RX10 91 10 0 := ⟨RX10, TX10, 44, rfl, by decide, inlX10, wsL_law_r15_l (List.mem_of_getElem? (i := 6) rfl)⟩
theorem fX10_95 : zFd RX10 95 10 1 := ⟨RX10, TX10, 44, rfl, by decide, inlX10, wsL_law_r15_l (List.mem_of_getElem? (i := 7) rfl)⟩
theorem fX10_112 : zFd RX10 112 10 25 := ⟨RX10, TX10, 44, rfl, by decide, inlX10, wsL_law_r15_l (List.mem_of_getElem? (i := 13) rfl)⟩
theorem fX10_115 : zFd RX10 115 10 2 := ⟨RX10, TX10, 44, rfl, by decide, inlX10, wsL_law_r15_l (List.mem_of_getElem? (i := 14) rfl)⟩
theorem fX10_121 : zFd RX10 121 10 3 := ⟨RX10, TX10, 44, rfl, by decide, inlX10, wsL_law_r15_l (List.mem_of_getElem? (i := 15) rfl)⟩
theorem fX9_109 : zFd RX9 109 8 1 := ⟨RX8, TX8, 2, rfl, by decide, inlX8, wsL_law_r16_l (List.mem_of_getElem? (i := 5) rfl)⟩
theorem fX10_134 : zFd RX10 134 10 20 := ⟨RX10, TX10, 44, rfl, by decide, inlX10, wsL_law_r16_l (List.mem_of_getElem? (i := 12) rfl)⟩
theorem fX10_137 : zFd RX10 137 10 21 := ⟨RX10, TX10, 44, rfl, by decide, inlX10, wsL_law_r17_l (List.mem_of_getElem? (i := 8) rfl)⟩
theorem fX10_169 : zFd RX10 169 10 23 := ⟨RX10, TX10, 44, rfl, by decide, inlX10, wsL_law_r17_l (List.mem_of_getElem? (i := 9) rfl)⟩
theorem fX10_172 : zFd RX10 172 10 24 := ⟨RX10, TX10, 44, rfl, by decide, inlX10, wsL_law_r17_l (List.mem_of_getElem? (i := 10) rfl)⟩
theorem fX10_166 : zFd RX10 166 10 26 := ⟨RX10, TX10, 44, rfl, by decide, inlX10, wsL_law_r17_l (List.mem_of_getElem? (i := 11) rfl)⟩
theorem fX10_144 : zFd RX10 144 10 22 := ⟨RX10, TX10, 44, rfl, by decide, inlX10, wsL_law_r17_l (List.mem_of_getElem? (i := 16) rfl)⟩
theorem fX10_188 : zFd RX10 188 10 12 := ⟨RX10, TX10, 44, rfl, by decide, inlX10, wsL_law_r19_l (List.mem_of_getElem? (i := 5) rfl)⟩
theorem fX10_191 : zFd RX10 191 10 14 := ⟨RX10, TX10, 44, rfl, by decide, inlX10, wsL_law_r19_l (List.mem_of_getElem? (i := 6) rfl)⟩
theorem fX10_194 : zFd RX10 194 10 16 := ⟨RX10, TX10, 44, rfl, by decide, inlX10, wsL_law_r19_l (List.mem_of_getElem? (i := 7) rfl)⟩
theorem fX10_197 : zFd RX10 197 10 18 := ⟨RX10, TX10, 44, rfl, by decide, inlX10, wsL_law_r19_l (List.mem_of_getElem? (i := 8) rfl)⟩
theorem fX9_123 : zFd RX9 123 2 5 := ⟨RX2, TX2, 15, rfl, by decide, inlX2, wsL_law_r19_l (List.mem_of_getElem? (i := 14) rfl)⟩
theorem fX9_126 : zFd RX9 126 2 6 := ⟨RX2, TX2, 15, rfl, by decide, inlX2, wsL_law_r19_l (List.mem_of_getElem? (i := 15) rfl)⟩
theorem fX9_129 : zFd RX9 129 2 7 := ⟨RX2, TX2, 15, rfl, by decide, inlX2, wsL_law_r19_l (List.mem_of_getElem? (i := 16) rfl)⟩
theorem fX9_135 : zFd RX9 135 3 2 := ⟨RX3, TX3, 6, rfl, by decide, inlX3, wsL_law_r19_l (List.mem_of_getElem? (i := 17) rfl)⟩
theorem fX9_138 : zFd RX9 138 3 3 := ⟨RX3, TX3, 6, rfl, by decide, inlX3, wsL_law_r19_l (List.mem_of_getElem? (i := 18) rfl)⟩
theorem fX3_55 : zFd RX3 55 2 0 := ⟨RX2, TX2, 15, rfl, by decide, inlX2, wsL_law_r20_l (List.mem_of_getElem? (i := 8) rfl)⟩
theorem fX9_145 : zFd RX9 145 2 8 := ⟨RX2, TX2, 15, rfl, by decide, inlX2, wsL_law_r22_l (List.mem_of_getElem? (i := 2) rfl)⟩
theorem fX9_152 : zFd RX9 152 2 11 := ⟨RX2, TX2, 15, rfl, by decide, inlX2, wsL_law_r22_l (List.mem_of_getElem? (i := 11) rfl)⟩
theorem fX9_260 : zFd RX9 260 2 0 := ⟨RX2, TX2, 15, rfl, by decide, inlX2, wsL_law_r22_l (List.mem_of_getElem? (i := 16) rfl)⟩
theorem fX9_162 : zFd RX9 162 2 12 := ⟨RX2, TX2, 15, rfl, by decide, inlX2, wsL_law_r23_l (List.mem_of_getElem? (i := 17) rfl)⟩
theorem fX3_86 : zFd RX3 86 2 1 := ⟨RX2, TX2, 15, rfl, by decide, inlX2, wsL_law_r24_l (List.mem_of_getElem? (i := 10) rfl)⟩
theorem fX3_73 : zFd RX3 73 2 6 := ⟨RX2, TX2, 15, rfl, by decide, inlX2, wsL_law_r24_l (List.mem_of_getElem? (i := 11) rfl)⟩
theorem fX3_63 : zFd RX3 63 2 2 := ⟨RX2, TX2, 15, rfl, by decide, inlX2, wsL_law_r24_l (List.mem_of_getElem? (i := 16) rfl)⟩
theorem fX10_251 : zFd RX10 251 10 37 := ⟨RX10, TX10, 44, rfl, by decide, inlX10, wsL_law_r27_l (List.mem_of_getElem? (i := 2) rfl)⟩
theorem fX10_234 : zFd RX10 234 10 38 := ⟨RX10, TX10, 44, rfl, by decide, inlX10, wsL_law_r27_l (List.mem_of_getElem? (i := 3) rfl)⟩
theorem fX9_213 : zFd RX9 213 6 1 := ⟨RX6, TX6, 2, rfl, by decide, inlX6, wsL_law_r31_l (List.mem_of_getElem? (i := 12) rfl)⟩
theorem fX9_216 : zFd RX9 216 1 1 := ⟨RX1, TX1, 2, rfl, by decide, inlX1, wsL_law_r32_l (List.mem_of_getElem? (i := 2) rfl)⟩
theorem fX0_19 : zFd RX0 19 2 2 := ⟨RX2, TX2, 15, rfl, by decide, inlX2, wsL_law_r33_l (List.mem_of_getElem? (i := 13) rfl)⟩
theorem fX0_26 : zFd RX0 26 2 0 := ⟨RX2, TX2, 15, rfl, by decide, inlX2, wsL_law_r33_l (List.mem_of_getElem? (i := 15) rfl)⟩
theorem fX0_43 : zFd RX0 43 3 5 := ⟨RX3, TX3, 6, rfl, by decide, inlX3, wsL_law_r34_l (List.mem_of_getElem? (i := 3) rfl)⟩
theorem fX0_53 : zFd RX0 53 2 6 := ⟨RX2, TX2, 15, rfl, by decide, inlX2, wsL_law_r34_l (List.mem_of_getElem? (i := 14) rfl)⟩
theorem fX0_56 : zFd RX0 56 2 1 := ⟨RX2, TX2, 15, rfl, by decide, inlX2, wsL_law_r34_l (List.mem_of_getElem? (i := 15) rfl)⟩
theorem fX5_57 : zFd RX5 57 2 2 := ⟨RX2, TX2, 15, rfl, by decide, inlX2, wsL_law_r36_l (List.mem_of_getElem? (i := 6) rfl)⟩
theorem fX5_62 : zFd RX5 62 2 6 := ⟨RX2, TX2, 15, rfl, by decide, inlX2, wsL_law_r36_l (List.mem_of_getElem? (i := 7) rfl)⟩
theorem fX5_65 : zFd RX5 65 2 1 := ⟨RX2, TX2, 15, rfl, by decide, inlX2, wsL_law_r36_l (List.mem_of_getElem? (i := 8) rfl)⟩
theorem fX5_68 : zFd RX5 68 3 1 := ⟨RX3, TX3, 6, rfl, by decide, inlX3, wsL_law_r36_l (List.mem_of_getElem? (i := 9) rfl)⟩
theorem fX5_89 : zFd RX5 89 3 5 := ⟨RX3, TX3, 6, rfl, by decide, inlX3, wsL_law_r36_l (List.mem_of_getElem? (i := 16) rfl)⟩
theorem fX5_96 : zFd RX5 96 3 4 := ⟨RX3, TX3, 6, rfl, by decide, inlX3, wsL_law_r36_l (List.mem_of_getElem? (i := 17) rfl)⟩
theorem fX9_248 : zFd RX9 248 2 3 := ⟨RX2, TX2, 15, rfl, by decide, inlX2, wsL_law_r38_l (List.mem_of_getElem? (i := 2) rfl)⟩
theorem fX9_252 : zFd RX9 252 7 4 := ⟨RX7, TX7, 5, rfl, by decide, inlX7, wsL_law_r38_l (List.mem_of_getElem? (i := 12) rfl)⟩
theorem fX9_263 : zFd RX9 263 2 1 := ⟨RX2, TX2, 15, rfl, by decide, inlX2, wsL_law_r40_l (List.mem_of_getElem? (i := 19) rfl)⟩
theorem kX9_100 : zLk RX9 100 mX8_add 1 := ⟨wsL_law_r8_l (List.mem_of_getElem? (i := 20) rfl), wsL_law_r8_l (List.mem_of_getElem? (i := 21) rfl), wsL_law_r8_l (List.mem_of_getElem? (i := 22) rfl), wsL_law_r1_l (List.mem_of_getElem? (i := 14) rfl), wsL_law_r8_l (List.mem_of_getElem? (i := 23) rfl), by decide +kernel, by decide +kernel, by decide +kernel, by decide +kernel⟩
theorem kX9_103 : zLk RX9 103 mX9_layText 0 := ⟨wsL_law_r9_l (List.mem_of_getElem? (i := 0) rfl), wsL_law_r9_l (List.mem_of_getElem? (i := 1) rfl), wsL_law_r9_l (List.mem_of_getElem? (i := 2) rfl), wsL_law_r1_l (List.mem_of_getElem? (i := 2) rfl), wsL_law_r9_l (List.mem_of_getElem? (i := 3) rfl), by decide +kernel, by decide +kernel, by decide +kernel, by decide +kernel⟩
theorem kX9_112 : zLk RX9 112 mX4_firstFault 1 := ⟨wsL_law_r9_l (List.mem_of_getElem? (i := 7) rfl), wsL_law_r9_l (List.mem_of_getElem? (i := 8) rfl), wsL_law_r9_l (List.mem_of_getElem? (i := 9) rfl), wsL_law_r1_l (List.mem_of_getElem? (i := 18) rfl), wsL_law_r9_l (List.mem_of_getElem? (i := 10) rfl), by decide +kernel, by decide +kernel, by decide +kernel, by decide +kernel⟩
theorem kX4_19 : zLk RX4 19 mX2_clear 0 := ⟨wsL_law_r9_l (List.mem_of_getElem? (i := 12) rfl), wsL_law_r9_l (List.mem_of_getElem? (i := 13) rfl), wsL_law_r9_l (List.mem_of_getElem? (i := 14) rfl), wsL_law_r1_l (List.mem_of_getElem? (i := 22) rfl), wsL_law_r9_l (List.mem_of_getElem? (i := 15) rfl), by decide +kernel, by decide +kernel, by decide +kernel, by decide +kernel⟩
theorem kX4_29 : zLk RX4 29 mX4_readItem 1 := ⟨wsL_law_r9_l (List.mem_of_getElem? (i := 20) rfl), wsL_law_r9_l (List.mem_of_getElem? (i := 21) rfl), wsL_law_r9_l (List.mem_of_getElem? (i := 22) rfl), wsL_law_r1_l (List.mem_of_getElem? (i := 18) rfl), wsL_law_r9_l (List.mem_of_getElem? (i := 23) rfl), by decide +kernel, by decide +kernel, by decide +kernel, by decide +kernel⟩
theorem kX4_33 : zLk RX4 33 mX8_letterAt 1 := ⟨wsL_law_r10_l (List.mem_of_getElem? (i := 0) rfl), wsL_law_r10_l (List.mem_of_getElem? (i := 1) rfl), wsL_law_r10_l (List.mem_of_getElem? (i := 2) rfl), wsL_law_r1_l (List.mem_of_getElem? (i := 14) rfl), wsL_law_r10_l (List.mem_of_getElem? (i := 3) rfl), by decide +kernel, by decide +kernel, by decide +kernel, by decide +kernel⟩
theorem kX4_37 : zLk RX4 37 mX4_readLines 1 := ⟨wsL_law_r10_l (List.mem_of_getElem? (i := 4) rfl), wsL_law_r10_l (List.mem_of_getElem? (i := 5) rfl), wsL_law_r10_l (List.mem_of_getElem? (i := 6) rfl), wsL_law_r1_l (List.mem_of_getElem? (i := 18) rfl), wsL_law_r10_l (List.mem_of_getElem? (i := 7) rfl), by decide +kernel, by decide +kernel, by decide +kernel, by decide +kernel⟩
theorem kX4_49 : zLk RX4 49 mX4_number 3 := ⟨wsL_law_r10_l (List.mem_of_getElem? (i := 9) rfl), wsL_law_r10_l (List.mem_of_getElem? (i := 10) rfl), wsL_law_r10_l (List.mem_of_getElem? (i := 11) rfl), wsL_law_r1_l (List.mem_of_getElem? (i := 18) rfl), wsL_law_r10_l (List.mem_of_getElem? (i := 12) rfl), by decide +kernel, by decide +kernel, by decide +kernel, by decide +kernel⟩
theorem kX4_92 : zLk RX4 92 mX8_figureAt 1 := ⟨wsL_law_r10_l (List.mem_of_getElem? (i := 13) rfl), wsL_law_r10_l (List.mem_of_getElem? (i := 14) rfl), wsL_law_r10_l (List.mem_of_getElem? (i := 15) rfl), wsL_law_r1_l (List.mem_of_getElem? (i := 14) rfl), wsL_law_r10_l (List.mem_of_getElem? (i := 16) rfl), by decide +kernel, by decide +kernel, by decide +kernel, by decide +kernel⟩
theorem kX4_40 : zLk RX4 40 mX4_readPower 1 := ⟨wsL_law_r10_l (List.mem_of_getElem? (i := 17) rfl), wsL_law_r10_l (List.mem_of_getElem? (i := 18) rfl), wsL_law_r10_l (List.mem_of_getElem? (i := 19) rfl), wsL_law_r1_l (List.mem_of_getElem? (i := 18) rfl), wsL_law_r10_l (List.mem_of_getElem? (i := 20) rfl), by decide +kernel, by decide +kernel, by decide +kernel, by decide +kernel⟩
theorem kX4_43 : zLk RX4 43 mX4_readCore 1 := ⟨wsL_law_r10_l (List.mem_of_getElem? (i := 22) rfl), wsL_law_r10_l (List.mem_of_getElem? (i := 23) rfl), wsL_law_r11_l (List.mem_of_getElem? (i := 0) rfl), wsL_law_r1_l (List.mem_of_getElem? (i := 18) rfl), wsL_law_r11_l (List.mem_of_getElem? (i := 1) rfl), by decide +kernel, by decide +kernel, by decide +kernel, by decide +kernel⟩
theorem kX4_66 : zLk RX4 66 mX4_row 1 := ⟨wsL_law_r11_l (List.mem_of_getElem? (i := 8) rfl), wsL_law_r11_l (List.mem_of_getElem? (i := 9) rfl), wsL_law_r11_l (List.mem_of_getElem? (i := 10) rfl), wsL_law_r1_l (List.mem_of_getElem? (i := 18) rfl), wsL_law_r11_l (List.mem_of_getElem? (i := 11) rfl), by decide +kernel, by decide +kernel, by decide +kernel, by decide +kernel⟩
theorem kX4_46 : zLk RX4 46 mX4_readRule 1 := ⟨wsL_law_r11_l (List.mem_of_getElem? (i := 12) rfl), wsL_law_r11_l (List.mem_of_getElem? (i := 13) rfl), wsL_law_r11_l (List.mem_of_getElem? (i := 14) rfl), wsL_law_r1_l (List.mem_of_getElem? (i := 18) rfl), wsL_law_r11_l (List.mem_of_getElem? (i := 15) rfl), by decide +kernel, by decide +kernel, by decide +kernel, by decide +kernel⟩
theorem kX9_270 : zLk RX9 270 mX2_layChains 0 := ⟨wsL_law_r11_l (List.mem_of_getElem? (i := 19) rfl), wsL_law_r11_l (List.mem_of_getElem? (i := 20) rfl), wsL_law_r11_l (List.mem_of_getElem? (i := 21) rfl), wsL_law_r1_l (List.mem_of_getElem? (i := 22) rfl), wsL_law_r11_l (List.mem_of_getElem? (i := 22) rfl), by decide +kernel, by decide +kernel, by decide +kernel, by decide +kernel⟩
theorem kX2_60 : zLk RX2 60 mX2_orderChains 1 := ⟨wsL_law_r11_l (List.mem_of_getElem? (i := 23) rfl), wsL_law_r12_l (List.mem_of_getElem? (i := 0) rfl), wsL_law_r12_l (List.mem_of_getElem? (i := 1) rfl), wsL_law_r1_l (List.mem_of_getElem? (i := 22) rfl), wsL_law_r12_l (List.mem_of_getElem? (i := 2) rfl), by decide +kernel, by decide +kernel, by decide +kernel, by decide +kernel⟩
theorem kX2_64 : zLk RX2 64 mX2_layAt 2 := ⟨wsL_law_r12_l (List.mem_of_getElem? (i := 3) rfl), wsL_law_r12_l (List.mem_of_getElem? (i := 4) rfl), wsL_law_r12_l (List.mem_of_getElem? (i := 5) rfl), wsL_law_r1_l (List.mem_of_getElem? (i := 22) rfl), wsL_law_r12_l (List.mem_of_getElem? (i := 6) rfl), by decide +kernel, by decide +kernel, by decide +kernel, by decide +kernel⟩
theorem kX2_68 : zLk RX2 68 mX2_clearLoads 0 := ⟨wsL_law_r12_l (List.mem_of_getElem? (i := 8) rfl), wsL_law_r12_l (List.mem_of_getElem? (i := 9) rfl), wsL_law_r12_l (List.mem_of_getElem? (i := 10) rfl), wsL_law_r1_l (List.mem_of_getElem? (i := 22) rfl), wsL_law_r12_l (List.mem_of_getElem? (i := 11) rfl), by decide +kernel, by decide +kernel, by decide +kernel, by decide +kernel⟩
theorem kX2_71 : zLk RX2 71 mX2_leastLoaded 1 := ⟨wsL_law_r12_l (List.mem_of_getElem? (i := 12) rfl), wsL_law_r12_l (List.mem_of_getElem? (i := 13) rfl), wsL_law_r12_l (List.mem_of_getElem? (i := 14) rfl), wsL_law_r1_l (List.mem_of_getElem? (i := 22) rfl), wsL_law_r12_l (List.mem_of_getElem? (i := 15) rfl), by decide +kernel, by decide +kernel, by decide +kernel, by decide +kernel⟩
theorem kX9_273 : zLk RX9 273 mX3_startOver 1 := ⟨wsL_law_r12_l (List.mem_of_getElem? (i := 16) rfl), wsL_law_r12_l (List.mem_of_getElem? (i := 17) rfl), wsL_law_r12_l (List.mem_of_getElem? (i := 18) rfl), wsL_law_r2_l (List.mem_of_getElem? (i := 3) rfl), wsL_law_r12_l (List.mem_of_getElem? (i := 19) rfl), by decide +kernel, by decide +kernel, by decide +kernel, by decide +kernel⟩
theorem kX3_31 : zLk RX3 31 mX3_takeOff 1 := ⟨wsL_law_r12_l (List.mem_of_getElem? (i := 23) rfl), wsL_law_r13_l (List.mem_of_getElem? (i := 0) rfl), wsL_law_r13_l (List.mem_of_getElem? (i := 1) rfl), wsL_law_r2_l (List.mem_of_getElem? (i := 3) rfl), wsL_law_r13_l (List.mem_of_getElem? (i := 2) rfl), by decide +kernel, by decide +kernel, by decide +kernel, by decide +kernel⟩
theorem kX9_277 : zLk RX9 277 mX5_forgetAll 0 := ⟨wsL_law_r13_l (List.mem_of_getElem? (i := 3) rfl), wsL_law_r13_l (List.mem_of_getElem? (i := 4) rfl), wsL_law_r13_l (List.mem_of_getElem? (i := 5) rfl), wsL_law_r2_l (List.mem_of_getElem? (i := 11) rfl), wsL_law_r13_l (List.mem_of_getElem? (i := 6) rfl), by decide +kernel, by decide +kernel, by decide +kernel, by decide +kernel⟩
theorem kX9_259 : zLk RX9 259 mX6_clear 0 := ⟨wsL_law_r13_l (List.mem_of_getElem? (i := 7) rfl), wsL_law_r13_l (List.mem_of_getElem? (i := 8) rfl), wsL_law_r13_l (List.mem_of_getElem? (i := 9) rfl), wsL_law_r2_l (List.mem_of_getElem? (i := 17) rfl), wsL_law_r13_l (List.mem_of_getElem? (i := 10) rfl), by decide +kernel, by decide +kernel, by decide +kernel, by decide +kernel⟩
theorem kX9_280 : zLk RX9 280 mX1_clear 0 := ⟨wsL_law_r13_l (List.mem_of_getElem? (i := 11) rfl), wsL_law_r13_l (List.mem_of_getElem? (i := 12) rfl), wsL_law_r13_l (List.mem_of_getElem? (i := 13) rfl), wsL_law_r2_l (List.mem_of_getElem? (i := 22) rfl), wsL_law_r13_l (List.mem_of_getElem? (i := 14) rfl), by decide +kernel, by decide +kernel, by decide +kernel, by decide +kernel⟩
theorem kX9_255 : zLk RX9 255 mX7_clear 0 := ⟨wsL_law_r13_l (List.mem_of_getElem? (i := 15) rfl), wsL_law_r13_l (List.mem_of_getElem? (i := 16) rfl), wsL_law_r13_l (List.mem_of_getElem? (i := 17) rfl), wsL_law_r3_l (List.mem_of_getElem? (i := 2) rfl), wsL_law_r13_l (List.mem_of_getElem? (i := 18) rfl), by decide +kernel, by decide +kernel, by decide +kernel, by decide +kernel⟩
theorem kX9_106 : zLk RX9 106 mX8_clear 0 := ⟨wsL_law_r13_l (List.mem_of_getElem? (i := 19) rfl), wsL_law_r13_l (List.mem_of_getElem? (i := 20) rfl), wsL_law_r13_l (List.mem_of_getElem? (i := 21) rfl), wsL_law_r1_l (List.mem_of_getElem? (i := 14) rfl), wsL_law_r13_l (List.mem_of_getElem? (i := 22) rfl), by decide +kernel, by decide +kernel, by decide +kernel, by decide +kernel⟩
theorem kX10_100 : zLk RX10 100 mX10_tell 4 := ⟨wsL_law_r15_l (List.mem_of_getElem? (i := 16) rfl), wsL_law_r15_l (List.mem_of_getElem? (i := 17) rfl), wsL_law_r15_l (List.mem_of_getElem? (i := 18) rfl), wsL_law_r1_l (List.mem_of_getElem? (i := 5) rfl), wsL_law_r15_l (List.mem_of_getElem? (i := 19) rfl), by decide +kernel, by decide +kernel, by decide +kernel, by decide +kernel⟩
theorem kX10_118 : zLk RX10 118 mX10_takeCores 0 := ⟨wsL_law_r15_l (List.mem_of_getElem? (i := 21) rfl), wsL_law_r15_l (List.mem_of_getElem? (i := 22) rfl), wsL_law_r15_l (List.mem_of_getElem? (i := 23) rfl), wsL_law_r1_l (List.mem_of_getElem? (i := 5) rfl), wsL_law_r16_l (List.mem_of_getElem? (i := 0) rfl), by decide +kernel, by decide +kernel, by decide +kernel, by decide +kernel⟩
theorem kL_13 : zLk RL 13 mX9_write 1 := ⟨wsL_law_r16_l (List.mem_of_getElem? (i := 1) rfl), wsL_law_r16_l (List.mem_of_getElem? (i := 2) rfl), wsL_law_r16_l (List.mem_of_getElem? (i := 3) rfl), wsL_law_r1_l (List.mem_of_getElem? (i := 2) rfl), wsL_law_r16_l (List.mem_of_getElem? (i := 4) rfl), by decide +kernel, by decide +kernel, by decide +kernel, by decide +kernel⟩
theorem kL_17 : zLk RL 17 mX10_write 1 := ⟨wsL_law_r16_l (List.mem_of_getElem? (i := 6) rfl), wsL_law_r16_l (List.mem_of_getElem? (i := 7) rfl), wsL_law_r16_l (List.mem_of_getElem? (i := 8) rfl), wsL_law_r1_l (List.mem_of_getElem? (i := 5) rfl), wsL_law_r16_l (List.mem_of_getElem? (i := 9) rfl), by decide +kernel, by decide +kernel, by decide +kernel, by decide +kernel⟩
theorem kX10_124 : zLs RX10 124 mX10_in 3 := ⟨wsL_law_r16_l (List.mem_of_getElem? (i := 13) rfl), wsL_law_r16_l (List.mem_of_getElem? (i := 14) rfl), wsL_law_r1_l (List.mem_of_getElem? (i := 5) rfl), wsL_law_r16_l (List.mem_of_getElem? (i := 15) rfl), rfl, by decide +kernel, by decide +kernel, by decide +kernel, by decide +kernel⟩
theorem kL_18 : zLk RL 18 mX9_wipe 0 := ⟨wsL_law_r16_l (List.mem_of_getElem? (i := 16) rfl), wsL_law_r16_l (List.mem_of_getElem? (i := 17) rfl), wsL_law_r16_l (List.mem_of_getElem? (i := 18) rfl), wsL_law_r1_l (List.mem_of_getElem? (i := 2) rfl), wsL_law_r16_l (List.mem_of_getElem? (i := 19) rfl), by decide +kernel, by decide +kernel, by decide +kernel, by decide +kernel⟩
theorem kL_22 : zLk RL 22 mX10_wipe 0 := ⟨wsL_law_r16_l (List.mem_of_getElem? (i := 20) rfl), wsL_law_r16_l (List.mem_of_getElem? (i := 21) rfl), wsL_law_r16_l (List.mem_of_getElem? (i := 22) rfl), wsL_law_r1_l (List.mem_of_getElem? (i := 5) rfl), wsL_law_r16_l (List.mem_of_getElem? (i := 23) rfl), by decide +kernel, by decide +kernel, by decide +kernel, by decide +kernel⟩
theorem kL_23 : zLk RL 23 mX9_fault 0 := ⟨wsL_law_r17_l (List.mem_of_getElem? (i := 0) rfl), wsL_law_r17_l (List.mem_of_getElem? (i := 1) rfl), wsL_law_r17_l (List.mem_of_getElem? (i := 2) rfl), wsL_law_r1_l (List.mem_of_getElem? (i := 2) rfl), wsL_law_r17_l (List.mem_of_getElem? (i := 3) rfl), by decide +kernel, by decide +kernel, by decide +kernel, by decide +kernel⟩
theorem kL_26 : zLk RL 26 mX10_fault 0 := ⟨wsL_law_r17_l (List.mem_of_getElem? (i := 4) rfl), wsL_law_r17_l (List.mem_of_getElem? (i := 5) rfl), wsL_law_r17_l (List.mem_of_getElem? (i := 6) rfl), wsL_law_r1_l (List.mem_of_getElem? (i := 5) rfl), wsL_law_r17_l (List.mem_of_getElem? (i := 7) rfl), by decide +kernel, by decide +kernel, by decide +kernel, by decide +kernel⟩
theorem kX10_182 : zLk RX10 182 mX10_takesItem 0 := ⟨wsL_law_r17_l (List.mem_of_getElem? (i := 12) rfl), wsL_law_r17_l (List.mem_of_getElem? (i := 13) rfl), wsL_law_r17_l (List.mem_of_getElem? (i := 14) rfl), wsL_law_r1_l (List.mem_of_getElem? (i := 5) rfl), wsL_law_r17_l (List.mem_of_getElem? (i := 15) rfl), by decide +kernel, by decide +kernel, by decide +kernel, by decide +kernel⟩
theorem kX10_140 : zLk RX10 140 mX10_letter 0 := ⟨wsL_law_r17_l (List.mem_of_getElem? (i := 17) rfl), wsL_law_r17_l (List.mem_of_getElem? (i := 18) rfl), wsL_law_r17_l (List.mem_of_getElem? (i := 19) rfl), wsL_law_r1_l (List.mem_of_getElem? (i := 5) rfl), wsL_law_r17_l (List.mem_of_getElem? (i := 20) rfl), by decide +kernel, by decide +kernel, by decide +kernel, by decide +kernel⟩
theorem kX10_155 : zLk RX10 155 mX10_takesNumber 2 := ⟨wsL_law_r17_l (List.mem_of_getElem? (i := 21) rfl), wsL_law_r17_l (List.mem_of_getElem? (i := 22) rfl), wsL_law_r17_l (List.mem_of_getElem? (i := 23) rfl), wsL_law_r1_l (List.mem_of_getElem? (i := 5) rfl), wsL_law_r18_l (List.mem_of_getElem? (i := 0) rfl), by decide +kernel, by decide +kernel, by decide +kernel, by decide +kernel⟩
theorem kX10_159 : zLk RX10 159 mX10_isSign 1 := ⟨wsL_law_r18_l (List.mem_of_getElem? (i := 4) rfl), wsL_law_r18_l (List.mem_of_getElem? (i := 5) rfl), wsL_law_r18_l (List.mem_of_getElem? (i := 6) rfl), wsL_law_r1_l (List.mem_of_getElem? (i := 5) rfl), wsL_law_r18_l (List.mem_of_getElem? (i := 7) rfl), by decide +kernel, by decide +kernel, by decide +kernel, by decide +kernel⟩
theorem kX10_175 : zLk RX10 175 mX10_takesCore 0 := ⟨wsL_law_r18_l (List.mem_of_getElem? (i := 8) rfl), wsL_law_r18_l (List.mem_of_getElem? (i := 9) rfl), wsL_law_r18_l (List.mem_of_getElem? (i := 10) rfl), wsL_law_r1_l (List.mem_of_getElem? (i := 5) rfl), wsL_law_r18_l (List.mem_of_getElem? (i := 11) rfl), by decide +kernel, by decide +kernel, by decide +kernel, by decide +kernel⟩
theorem kX10_163 : zLk RX10 163 mX10_takesRow 1 := ⟨wsL_law_r18_l (List.mem_of_getElem? (i := 12) rfl), wsL_law_r18_l (List.mem_of_getElem? (i := 13) rfl), wsL_law_r18_l (List.mem_of_getElem? (i := 14) rfl), wsL_law_r1_l (List.mem_of_getElem? (i := 5) rfl), wsL_law_r18_l (List.mem_of_getElem? (i := 15) rfl), by decide +kernel, by decide +kernel, by decide +kernel, by decide +kernel⟩
theorem kX10_179 : zLk RX10 179 mX10_takesRule 0 := ⟨wsL_law_r18_l (List.mem_of_getElem? (i := 17) rfl), wsL_law_r18_l (List.mem_of_getElem? (i := 18) rfl), wsL_law_r18_l (List.mem_of_getElem? (i := 19) rfl), wsL_law_r1_l (List.mem_of_getElem? (i := 5) rfl), wsL_law_r18_l (List.mem_of_getElem? (i := 20) rfl), by decide +kernel, by decide +kernel, by decide +kernel, by decide +kernel⟩
theorem kL_27 : zLk RL 27 mX9_lay 0 := ⟨wsL_law_r18_l (List.mem_of_getElem? (i := 21) rfl), wsL_law_r18_l (List.mem_of_getElem? (i := 22) rfl), wsL_law_r18_l (List.mem_of_getElem? (i := 23) rfl), wsL_law_r1_l (List.mem_of_getElem? (i := 2) rfl), wsL_law_r19_l (List.mem_of_getElem? (i := 0) rfl), by decide +kernel, by decide +kernel, by decide +kernel, by decide +kernel⟩
theorem kL_30 : zLk RL 30 mX10_lay 0 := ⟨wsL_law_r19_l (List.mem_of_getElem? (i := 1) rfl), wsL_law_r19_l (List.mem_of_getElem? (i := 2) rfl), wsL_law_r19_l (List.mem_of_getElem? (i := 3) rfl), wsL_law_r1_l (List.mem_of_getElem? (i := 5) rfl), wsL_law_r19_l (List.mem_of_getElem? (i := 4) rfl), by decide +kernel, by decide +kernel, by decide +kernel, by decide +kernel⟩
theorem kX10_185 : zLk RX10 185 mX10_fault 0 := ⟨wsL_law_r19_l (List.mem_of_getElem? (i := 9) rfl), wsL_law_r17_l (List.mem_of_getElem? (i := 5) rfl), wsL_law_r17_l (List.mem_of_getElem? (i := 6) rfl), wsL_law_r1_l (List.mem_of_getElem? (i := 5) rfl), wsL_law_r17_l (List.mem_of_getElem? (i := 7) rfl), by decide +kernel, by decide +kernel, by decide +kernel, by decide +kernel⟩
theorem kL_31 : zLk RL 31 mX9_core 2 := ⟨wsL_law_r19_l (List.mem_of_getElem? (i := 10) rfl), wsL_law_r19_l (List.mem_of_getElem? (i := 11) rfl), wsL_law_r19_l (List.mem_of_getElem? (i := 12) rfl), wsL_law_r1_l (List.mem_of_getElem? (i := 2) rfl), wsL_law_r19_l (List.mem_of_getElem? (i := 13) rfl), by decide +kernel, by decide +kernel, by decide +kernel, by decide +kernel⟩
theorem kX9_116 : zLk RX9 116 mX9_isCore 1 := ⟨wsL_law_r19_l (List.mem_of_getElem? (i := 19) rfl), wsL_law_r19_l (List.mem_of_getElem? (i := 20) rfl), wsL_law_r19_l (List.mem_of_getElem? (i := 21) rfl), wsL_law_r1_l (List.mem_of_getElem? (i := 2) rfl), wsL_law_r19_l (List.mem_of_getElem? (i := 22) rfl), by decide +kernel, by decide +kernel, by decide +kernel, by decide +kernel⟩
theorem kX9_132 : zLk RX9 132 mX3_isPut 1 := ⟨wsL_law_r19_l (List.mem_of_getElem? (i := 23) rfl), wsL_law_r20_l (List.mem_of_getElem? (i := 0) rfl), wsL_law_r20_l (List.mem_of_getElem? (i := 1) rfl), wsL_law_r2_l (List.mem_of_getElem? (i := 3) rfl), wsL_law_r20_l (List.mem_of_getElem? (i := 2) rfl), by decide +kernel, by decide +kernel, by decide +kernel, by decide +kernel⟩
theorem kX9_141 : zLk RX9 141 mX3_stairs 1 := ⟨wsL_law_r20_l (List.mem_of_getElem? (i := 3) rfl), wsL_law_r20_l (List.mem_of_getElem? (i := 4) rfl), wsL_law_r20_l (List.mem_of_getElem? (i := 5) rfl), wsL_law_r2_l (List.mem_of_getElem? (i := 3) rfl), wsL_law_r20_l (List.mem_of_getElem? (i := 6) rfl), by decide +kernel, by decide +kernel, by decide +kernel, by decide +kernel⟩
theorem kX3_47 : zLk RX3 47 mX3_takes 2 := ⟨wsL_law_r20_l (List.mem_of_getElem? (i := 9) rfl), wsL_law_r20_l (List.mem_of_getElem? (i := 10) rfl), wsL_law_r20_l (List.mem_of_getElem? (i := 11) rfl), wsL_law_r2_l (List.mem_of_getElem? (i := 3) rfl), wsL_law_r20_l (List.mem_of_getElem? (i := 12) rfl), by decide +kernel, by decide +kernel, by decide +kernel, by decide +kernel⟩
theorem kX3_51 : zLk RX3 51 mX2_takes 3 := ⟨wsL_law_r20_l (List.mem_of_getElem? (i := 13) rfl), wsL_law_r20_l (List.mem_of_getElem? (i := 14) rfl), wsL_law_r20_l (List.mem_of_getElem? (i := 15) rfl), wsL_law_r1_l (List.mem_of_getElem? (i := 22) rfl), wsL_law_r20_l (List.mem_of_getElem? (i := 16) rfl), by decide +kernel, by decide +kernel, by decide +kernel, by decide +kernel⟩
theorem kL_35 : zLk RL 35 mX10_core 2 := ⟨wsL_law_r20_l (List.mem_of_getElem? (i := 17) rfl), wsL_law_r20_l (List.mem_of_getElem? (i := 18) rfl), wsL_law_r20_l (List.mem_of_getElem? (i := 19) rfl), wsL_law_r1_l (List.mem_of_getElem? (i := 5) rfl), wsL_law_r20_l (List.mem_of_getElem? (i := 20) rfl), by decide +kernel, by decide +kernel, by decide +kernel, by decide +kernel⟩
theorem kX10_212 : zLk RX10 212 mX10_isCore 1 := ⟨wsL_law_r20_l (List.mem_of_getElem? (i := 21) rfl), wsL_law_r20_l (List.mem_of_getElem? (i := 22) rfl), wsL_law_r20_l (List.mem_of_getElem? (i := 23) rfl), wsL_law_r1_l (List.mem_of_getElem? (i := 5) rfl), wsL_law_r21_l (List.mem_of_getElem? (i := 0) rfl), by decide +kernel, by decide +kernel, by decide +kernel, by decide +kernel⟩
theorem kX10_215 : zLk RX10 215 mX10_isPut 1 := ⟨wsL_law_r21_l (List.mem_of_getElem? (i := 1) rfl), wsL_law_r21_l (List.mem_of_getElem? (i := 2) rfl), wsL_law_r21_l (List.mem_of_getElem? (i := 3) rfl), wsL_law_r1_l (List.mem_of_getElem? (i := 5) rfl), wsL_law_r21_l (List.mem_of_getElem? (i := 4) rfl), by decide +kernel, by decide +kernel, by decide +kernel, by decide +kernel⟩
theorem kX10_218 : zLk RX10 218 mX10_stairsOf 1 := ⟨wsL_law_r21_l (List.mem_of_getElem? (i := 5) rfl), wsL_law_r21_l (List.mem_of_getElem? (i := 6) rfl), wsL_law_r21_l (List.mem_of_getElem? (i := 7) rfl), wsL_law_r1_l (List.mem_of_getElem? (i := 5) rfl), wsL_law_r21_l (List.mem_of_getElem? (i := 8) rfl), by decide +kernel, by decide +kernel, by decide +kernel, by decide +kernel⟩
theorem kX10_209 : zLk RX10 209 mX10_layTakes 0 := ⟨wsL_law_r21_l (List.mem_of_getElem? (i := 10) rfl), wsL_law_r21_l (List.mem_of_getElem? (i := 11) rfl), wsL_law_r21_l (List.mem_of_getElem? (i := 12) rfl), wsL_law_r1_l (List.mem_of_getElem? (i := 5) rfl), wsL_law_r21_l (List.mem_of_getElem? (i := 13) rfl), by decide +kernel, by decide +kernel, by decide +kernel, by decide +kernel⟩
theorem kX10_205 : zLk RX10 205 mX10_takesBy 3 := ⟨wsL_law_r21_l (List.mem_of_getElem? (i := 14) rfl), wsL_law_r21_l (List.mem_of_getElem? (i := 15) rfl), wsL_law_r21_l (List.mem_of_getElem? (i := 16) rfl), wsL_law_r1_l (List.mem_of_getElem? (i := 5) rfl), wsL_law_r21_l (List.mem_of_getElem? (i := 17) rfl), by decide +kernel, by decide +kernel, by decide +kernel, by decide +kernel⟩
theorem kX10_201 : zLk RX10 201 mX10_wrapOf 2 := ⟨wsL_law_r21_l (List.mem_of_getElem? (i := 18) rfl), wsL_law_r21_l (List.mem_of_getElem? (i := 19) rfl), wsL_law_r21_l (List.mem_of_getElem? (i := 20) rfl), wsL_law_r1_l (List.mem_of_getElem? (i := 5) rfl), wsL_law_r21_l (List.mem_of_getElem? (i := 21) rfl), by decide +kernel, by decide +kernel, by decide +kernel, by decide +kernel⟩
theorem kL_36 : zLk RL 36 mX9_chain 2 := ⟨wsL_law_r21_l (List.mem_of_getElem? (i := 22) rfl), wsL_law_r21_l (List.mem_of_getElem? (i := 23) rfl), wsL_law_r22_l (List.mem_of_getElem? (i := 0) rfl), wsL_law_r1_l (List.mem_of_getElem? (i := 2) rfl), wsL_law_r22_l (List.mem_of_getElem? (i := 1) rfl), by decide +kernel, by decide +kernel, by decide +kernel, by decide +kernel⟩
theorem kL_39 : zLk RL 39 mX10_chain 2 := ⟨wsL_law_r22_l (List.mem_of_getElem? (i := 3) rfl), wsL_law_r22_l (List.mem_of_getElem? (i := 4) rfl), wsL_law_r22_l (List.mem_of_getElem? (i := 5) rfl), wsL_law_r1_l (List.mem_of_getElem? (i := 5) rfl), wsL_law_r22_l (List.mem_of_getElem? (i := 6) rfl), by decide +kernel, by decide +kernel, by decide +kernel, by decide +kernel⟩
theorem kL_40 : zLk RL 40 mX9_wrap 3 := ⟨wsL_law_r22_l (List.mem_of_getElem? (i := 7) rfl), wsL_law_r22_l (List.mem_of_getElem? (i := 8) rfl), wsL_law_r22_l (List.mem_of_getElem? (i := 9) rfl), wsL_law_r1_l (List.mem_of_getElem? (i := 2) rfl), wsL_law_r22_l (List.mem_of_getElem? (i := 10) rfl), by decide +kernel, by decide +kernel, by decide +kernel, by decide +kernel⟩
theorem kX9_149 : zLk RX9 149 mX9_isWidth 1 := ⟨wsL_law_r22_l (List.mem_of_getElem? (i := 12) rfl), wsL_law_r22_l (List.mem_of_getElem? (i := 13) rfl), wsL_law_r22_l (List.mem_of_getElem? (i := 14) rfl), wsL_law_r1_l (List.mem_of_getElem? (i := 2) rfl), wsL_law_r22_l (List.mem_of_getElem? (i := 15) rfl), by decide +kernel, by decide +kernel, by decide +kernel, by decide +kernel⟩
theorem kX9_155 : zLk RX9 155 mX2_idealLoad 2 := ⟨wsL_law_r22_l (List.mem_of_getElem? (i := 17) rfl), wsL_law_r22_l (List.mem_of_getElem? (i := 18) rfl), wsL_law_r22_l (List.mem_of_getElem? (i := 19) rfl), wsL_law_r1_l (List.mem_of_getElem? (i := 22) rfl), wsL_law_r22_l (List.mem_of_getElem? (i := 20) rfl), by decide +kernel, by decide +kernel, by decide +kernel, by decide +kernel⟩
theorem kX2_81 : zLs RX2 81 mX2_leastLoad 6 := ⟨wsL_law_r22_l (List.mem_of_getElem? (i := 21) rfl), wsL_law_r22_l (List.mem_of_getElem? (i := 22) rfl), wsL_law_r1_l (List.mem_of_getElem? (i := 22) rfl), wsL_law_r22_l (List.mem_of_getElem? (i := 23) rfl), rfl, by decide +kernel, by decide +kernel, by decide +kernel, by decide +kernel⟩
theorem kX9_159 : zLk RX9 159 mX3_takes 2 := ⟨wsL_law_r23_l (List.mem_of_getElem? (i := 0) rfl), wsL_law_r20_l (List.mem_of_getElem? (i := 10) rfl), wsL_law_r20_l (List.mem_of_getElem? (i := 11) rfl), wsL_law_r2_l (List.mem_of_getElem? (i := 3) rfl), wsL_law_r20_l (List.mem_of_getElem? (i := 12) rfl), by decide +kernel, by decide +kernel, by decide +kernel, by decide +kernel⟩
theorem kL_44 : zLk RL 44 mX10_wrap 3 := ⟨wsL_law_r23_l (List.mem_of_getElem? (i := 1) rfl), wsL_law_r23_l (List.mem_of_getElem? (i := 2) rfl), wsL_law_r23_l (List.mem_of_getElem? (i := 3) rfl), wsL_law_r1_l (List.mem_of_getElem? (i := 5) rfl), wsL_law_r23_l (List.mem_of_getElem? (i := 4) rfl), by decide +kernel, by decide +kernel, by decide +kernel, by decide +kernel⟩
theorem kX10_222 : zLk RX10 222 mX10_isWidth 1 := ⟨wsL_law_r23_l (List.mem_of_getElem? (i := 5) rfl), wsL_law_r23_l (List.mem_of_getElem? (i := 6) rfl), wsL_law_r23_l (List.mem_of_getElem? (i := 7) rfl), wsL_law_r1_l (List.mem_of_getElem? (i := 5) rfl), wsL_law_r23_l (List.mem_of_getElem? (i := 8) rfl), by decide +kernel, by decide +kernel, by decide +kernel, by decide +kernel⟩
theorem kX10_225 : zLk RX10 225 mX10_idealOf 2 := ⟨wsL_law_r23_l (List.mem_of_getElem? (i := 9) rfl), wsL_law_r23_l (List.mem_of_getElem? (i := 10) rfl), wsL_law_r23_l (List.mem_of_getElem? (i := 11) rfl), wsL_law_r1_l (List.mem_of_getElem? (i := 5) rfl), wsL_law_r23_l (List.mem_of_getElem? (i := 12) rfl), by decide +kernel, by decide +kernel, by decide +kernel, by decide +kernel⟩
theorem kL_45 : zLk RL 45 mX9_line 3 := ⟨wsL_law_r23_l (List.mem_of_getElem? (i := 13) rfl), wsL_law_r23_l (List.mem_of_getElem? (i := 14) rfl), wsL_law_r23_l (List.mem_of_getElem? (i := 15) rfl), wsL_law_r1_l (List.mem_of_getElem? (i := 2) rfl), wsL_law_r23_l (List.mem_of_getElem? (i := 16) rfl), by decide +kernel, by decide +kernel, by decide +kernel, by decide +kernel⟩
theorem kL_48 : zLk RL 48 mX10_line 3 := ⟨wsL_law_r23_l (List.mem_of_getElem? (i := 18) rfl), wsL_law_r23_l (List.mem_of_getElem? (i := 19) rfl), wsL_law_r23_l (List.mem_of_getElem? (i := 20) rfl), wsL_law_r1_l (List.mem_of_getElem? (i := 5) rfl), wsL_law_r23_l (List.mem_of_getElem? (i := 21) rfl), by decide +kernel, by decide +kernel, by decide +kernel, by decide +kernel⟩
theorem kL_49 : zLk RL 49 mX9_put 3 := ⟨wsL_law_r23_l (List.mem_of_getElem? (i := 22) rfl), wsL_law_r23_l (List.mem_of_getElem? (i := 23) rfl), wsL_law_r24_l (List.mem_of_getElem? (i := 0) rfl), wsL_law_r1_l (List.mem_of_getElem? (i := 2) rfl), wsL_law_r24_l (List.mem_of_getElem? (i := 1) rfl), by decide +kernel, by decide +kernel, by decide +kernel, by decide +kernel⟩
theorem kX9_165 : zLs RX9 165 mX9_isCycle 1 := ⟨wsL_law_r24_l (List.mem_of_getElem? (i := 2) rfl), wsL_law_r24_l (List.mem_of_getElem? (i := 3) rfl), wsL_law_r1_l (List.mem_of_getElem? (i := 2) rfl), wsL_law_r24_l (List.mem_of_getElem? (i := 4) rfl), rfl, by decide +kernel, by decide +kernel, by decide +kernel, by decide +kernel⟩
theorem kX9_168 : zLk RX9 168 mX3_reason 3 := ⟨wsL_law_r24_l (List.mem_of_getElem? (i := 6) rfl), wsL_law_r24_l (List.mem_of_getElem? (i := 7) rfl), wsL_law_r24_l (List.mem_of_getElem? (i := 8) rfl), wsL_law_r2_l (List.mem_of_getElem? (i := 3) rfl), wsL_law_r24_l (List.mem_of_getElem? (i := 9) rfl), by decide +kernel, by decide +kernel, by decide +kernel, by decide +kernel⟩
theorem kX3_76 : zLk RX3 76 mX3_notDoneAhead 2 := ⟨wsL_law_r24_l (List.mem_of_getElem? (i := 12) rfl), wsL_law_r24_l (List.mem_of_getElem? (i := 13) rfl), wsL_law_r24_l (List.mem_of_getElem? (i := 14) rfl), wsL_law_r2_l (List.mem_of_getElem? (i := 3) rfl), wsL_law_r24_l (List.mem_of_getElem? (i := 15) rfl), by decide +kernel, by decide +kernel, by decide +kernel, by decide +kernel⟩
theorem kX3_79 : zLk RX3 79 mX3_begunBehind 2 := ⟨wsL_law_r24_l (List.mem_of_getElem? (i := 17) rfl), wsL_law_r24_l (List.mem_of_getElem? (i := 18) rfl), wsL_law_r24_l (List.mem_of_getElem? (i := 19) rfl), wsL_law_r2_l (List.mem_of_getElem? (i := 3) rfl), wsL_law_r24_l (List.mem_of_getElem? (i := 20) rfl), by decide +kernel, by decide +kernel, by decide +kernel, by decide +kernel⟩
theorem kX3_82 : zLk RX3 82 mX3_firstOver 4 := ⟨wsL_law_r24_l (List.mem_of_getElem? (i := 21) rfl), wsL_law_r24_l (List.mem_of_getElem? (i := 22) rfl), wsL_law_r24_l (List.mem_of_getElem? (i := 23) rfl), wsL_law_r2_l (List.mem_of_getElem? (i := 3) rfl), wsL_law_r25_l (List.mem_of_getElem? (i := 0) rfl), by decide +kernel, by decide +kernel, by decide +kernel, by decide +kernel⟩
theorem kX3_89 : zLk RX3 89 mX3_used 2 := ⟨wsL_law_r25_l (List.mem_of_getElem? (i := 1) rfl), wsL_law_r25_l (List.mem_of_getElem? (i := 2) rfl), wsL_law_r25_l (List.mem_of_getElem? (i := 3) rfl), wsL_law_r2_l (List.mem_of_getElem? (i := 3) rfl), wsL_law_r25_l (List.mem_of_getElem? (i := 4) rfl), by decide +kernel, by decide +kernel, by decide +kernel, by decide +kernel⟩
theorem kX9_172 : zLk RX9 172 mX3_toldBy 4 := ⟨wsL_law_r25_l (List.mem_of_getElem? (i := 5) rfl), wsL_law_r25_l (List.mem_of_getElem? (i := 6) rfl), wsL_law_r25_l (List.mem_of_getElem? (i := 7) rfl), wsL_law_r2_l (List.mem_of_getElem? (i := 3) rfl), wsL_law_r25_l (List.mem_of_getElem? (i := 8) rfl), by decide +kernel, by decide +kernel, by decide +kernel, by decide +kernel⟩
theorem kX9_176 : zLk RX9 176 mX1_ofPut 3 := ⟨wsL_law_r25_l (List.mem_of_getElem? (i := 9) rfl), wsL_law_r25_l (List.mem_of_getElem? (i := 10) rfl), wsL_law_r25_l (List.mem_of_getElem? (i := 11) rfl), wsL_law_r2_l (List.mem_of_getElem? (i := 22) rfl), wsL_law_r25_l (List.mem_of_getElem? (i := 12) rfl), by decide +kernel, by decide +kernel, by decide +kernel, by decide +kernel⟩
theorem kX1_19 : zLk RX1 19 mX1_clear 0 := ⟨wsL_law_r25_l (List.mem_of_getElem? (i := 13) rfl), wsL_law_r13_l (List.mem_of_getElem? (i := 12) rfl), wsL_law_r13_l (List.mem_of_getElem? (i := 13) rfl), wsL_law_r2_l (List.mem_of_getElem? (i := 22) rfl), wsL_law_r13_l (List.mem_of_getElem? (i := 14) rfl), by decide +kernel, by decide +kernel, by decide +kernel, by decide +kernel⟩
theorem kX1_22 : zLk RX1 22 mX1_addThree 3 := ⟨wsL_law_r25_l (List.mem_of_getElem? (i := 14) rfl), wsL_law_r25_l (List.mem_of_getElem? (i := 15) rfl), wsL_law_r25_l (List.mem_of_getElem? (i := 16) rfl), wsL_law_r2_l (List.mem_of_getElem? (i := 22) rfl), wsL_law_r25_l (List.mem_of_getElem? (i := 17) rfl), by decide +kernel, by decide +kernel, by decide +kernel, by decide +kernel⟩
theorem kX9_180 : zLk RX9 180 mX9_remember 0 := ⟨wsL_law_r25_l (List.mem_of_getElem? (i := 18) rfl), wsL_law_r25_l (List.mem_of_getElem? (i := 19) rfl), wsL_law_r25_l (List.mem_of_getElem? (i := 20) rfl), wsL_law_r1_l (List.mem_of_getElem? (i := 2) rfl), wsL_law_r25_l (List.mem_of_getElem? (i := 21) rfl), by decide +kernel, by decide +kernel, by decide +kernel, by decide +kernel⟩
theorem kX9_190 : zLk RX9 190 mX3_writeTo 1 := ⟨wsL_law_r25_l (List.mem_of_getElem? (i := 22) rfl), wsL_law_r25_l (List.mem_of_getElem? (i := 23) rfl), wsL_law_r26_l (List.mem_of_getElem? (i := 0) rfl), wsL_law_r2_l (List.mem_of_getElem? (i := 3) rfl), wsL_law_r26_l (List.mem_of_getElem? (i := 1) rfl), by decide +kernel, by decide +kernel, by decide +kernel, by decide +kernel⟩
theorem kX9_206 : zLk RX9 206 mX6_push 1 := ⟨wsL_law_r26_l (List.mem_of_getElem? (i := 6) rfl), wsL_law_r26_l (List.mem_of_getElem? (i := 7) rfl), wsL_law_r26_l (List.mem_of_getElem? (i := 8) rfl), wsL_law_r2_l (List.mem_of_getElem? (i := 17) rfl), wsL_law_r26_l (List.mem_of_getElem? (i := 9) rfl), by decide +kernel, by decide +kernel, by decide +kernel, by decide +kernel⟩
theorem kX9_183 : zLk RX9 183 mX3_place 3 := ⟨wsL_law_r26_l (List.mem_of_getElem? (i := 11) rfl), wsL_law_r26_l (List.mem_of_getElem? (i := 12) rfl), wsL_law_r26_l (List.mem_of_getElem? (i := 13) rfl), wsL_law_r2_l (List.mem_of_getElem? (i := 3) rfl), wsL_law_r26_l (List.mem_of_getElem? (i := 14) rfl), by decide +kernel, by decide +kernel, by decide +kernel, by decide +kernel⟩
theorem kX9_186 : zLk RX9 186 mX3_length 0 := ⟨wsL_law_r26_l (List.mem_of_getElem? (i := 15) rfl), wsL_law_r26_l (List.mem_of_getElem? (i := 16) rfl), wsL_law_r26_l (List.mem_of_getElem? (i := 17) rfl), wsL_law_r2_l (List.mem_of_getElem? (i := 3) rfl), wsL_law_r26_l (List.mem_of_getElem? (i := 18) rfl), by decide +kernel, by decide +kernel, by decide +kernel, by decide +kernel⟩
theorem kX3_66 : zLk RX3 66 mX3_isPut 1 := ⟨wsL_law_r26_l (List.mem_of_getElem? (i := 20) rfl), wsL_law_r20_l (List.mem_of_getElem? (i := 0) rfl), wsL_law_r20_l (List.mem_of_getElem? (i := 1) rfl), wsL_law_r2_l (List.mem_of_getElem? (i := 3) rfl), wsL_law_r20_l (List.mem_of_getElem? (i := 2) rfl), by decide +kernel, by decide +kernel, by decide +kernel, by decide +kernel⟩
theorem kL_52 : zLk RL 52 mX10_put 3 := ⟨wsL_law_r26_l (List.mem_of_getElem? (i := 21) rfl), wsL_law_r26_l (List.mem_of_getElem? (i := 22) rfl), wsL_law_r26_l (List.mem_of_getElem? (i := 23) rfl), wsL_law_r1_l (List.mem_of_getElem? (i := 5) rfl), wsL_law_r27_l (List.mem_of_getElem? (i := 0) rfl), by decide +kernel, by decide +kernel, by decide +kernel, by decide +kernel⟩
theorem kX10_245 : zLk RX10 245 mX10_judge 4 := ⟨wsL_law_r27_l (List.mem_of_getElem? (i := 4) rfl), wsL_law_r27_l (List.mem_of_getElem? (i := 5) rfl), wsL_law_r27_l (List.mem_of_getElem? (i := 6) rfl), wsL_law_r1_l (List.mem_of_getElem? (i := 5) rfl), wsL_law_r27_l (List.mem_of_getElem? (i := 7) rfl), by decide +kernel, by decide +kernel, by decide +kernel, by decide +kernel⟩
theorem kX10_237 : zLk RX10 237 mX10_isAhead 3 := ⟨wsL_law_r27_l (List.mem_of_getElem? (i := 8) rfl), wsL_law_r27_l (List.mem_of_getElem? (i := 9) rfl), wsL_law_r27_l (List.mem_of_getElem? (i := 10) rfl), wsL_law_r1_l (List.mem_of_getElem? (i := 5) rfl), wsL_law_r27_l (List.mem_of_getElem? (i := 11) rfl), by decide +kernel, by decide +kernel, by decide +kernel, by decide +kernel⟩
theorem kX10_228 : zLk RX10 228 mX10_endOf 1 := ⟨wsL_law_r27_l (List.mem_of_getElem? (i := 12) rfl), wsL_law_r27_l (List.mem_of_getElem? (i := 13) rfl), wsL_law_r27_l (List.mem_of_getElem? (i := 14) rfl), wsL_law_r1_l (List.mem_of_getElem? (i := 5) rfl), wsL_law_r27_l (List.mem_of_getElem? (i := 15) rfl), by decide +kernel, by decide +kernel, by decide +kernel, by decide +kernel⟩
theorem kX10_241 : zLk RX10 241 mX10_isTooMuch 5 := ⟨wsL_law_r27_l (List.mem_of_getElem? (i := 16) rfl), wsL_law_r27_l (List.mem_of_getElem? (i := 17) rfl), wsL_law_r27_l (List.mem_of_getElem? (i := 18) rfl), wsL_law_r1_l (List.mem_of_getElem? (i := 5) rfl), wsL_law_r27_l (List.mem_of_getElem? (i := 19) rfl), by decide +kernel, by decide +kernel, by decide +kernel, by decide +kernel⟩
theorem kX10_231 : zLk RX10 231 mX10_runsIn 2 := ⟨wsL_law_r27_l (List.mem_of_getElem? (i := 20) rfl), wsL_law_r27_l (List.mem_of_getElem? (i := 21) rfl), wsL_law_r27_l (List.mem_of_getElem? (i := 22) rfl), wsL_law_r1_l (List.mem_of_getElem? (i := 5) rfl), wsL_law_r27_l (List.mem_of_getElem? (i := 23) rfl), by decide +kernel, by decide +kernel, by decide +kernel, by decide +kernel⟩
theorem kX10_254 : zLk RX10 254 mX10_note 0 := ⟨wsL_law_r28_l (List.mem_of_getElem? (i := 0) rfl), wsL_law_r28_l (List.mem_of_getElem? (i := 1) rfl), wsL_law_r28_l (List.mem_of_getElem? (i := 2) rfl), wsL_law_r1_l (List.mem_of_getElem? (i := 5) rfl), wsL_law_r28_l (List.mem_of_getElem? (i := 3) rfl), by decide +kernel, by decide +kernel, by decide +kernel, by decide +kernel⟩
theorem kX10_257 : zLk RX10 257 mX10_putAt 3 := ⟨wsL_law_r28_l (List.mem_of_getElem? (i := 4) rfl), wsL_law_r28_l (List.mem_of_getElem? (i := 5) rfl), wsL_law_r28_l (List.mem_of_getElem? (i := 6) rfl), wsL_law_r1_l (List.mem_of_getElem? (i := 5) rfl), wsL_law_r28_l (List.mem_of_getElem? (i := 7) rfl), by decide +kernel, by decide +kernel, by decide +kernel, by decide +kernel⟩
theorem kX10_261 : zLk RX10 261 mX10_lengthOf 0 := ⟨wsL_law_r28_l (List.mem_of_getElem? (i := 8) rfl), wsL_law_r28_l (List.mem_of_getElem? (i := 9) rfl), wsL_law_r28_l (List.mem_of_getElem? (i := 10) rfl), wsL_law_r1_l (List.mem_of_getElem? (i := 5) rfl), wsL_law_r28_l (List.mem_of_getElem? (i := 11) rfl), by decide +kernel, by decide +kernel, by decide +kernel, by decide +kernel⟩
theorem kL_53 : zLk RL 53 mX9_take 1 := ⟨wsL_law_r28_l (List.mem_of_getElem? (i := 12) rfl), wsL_law_r28_l (List.mem_of_getElem? (i := 13) rfl), wsL_law_r28_l (List.mem_of_getElem? (i := 14) rfl), wsL_law_r1_l (List.mem_of_getElem? (i := 2) rfl), wsL_law_r28_l (List.mem_of_getElem? (i := 15) rfl), by decide +kernel, by decide +kernel, by decide +kernel, by decide +kernel⟩
theorem kX9_187 : zLk RX9 187 mX3_takeOff 1 := ⟨wsL_law_r28_l (List.mem_of_getElem? (i := 16) rfl), wsL_law_r13_l (List.mem_of_getElem? (i := 0) rfl), wsL_law_r13_l (List.mem_of_getElem? (i := 1) rfl), wsL_law_r2_l (List.mem_of_getElem? (i := 3) rfl), wsL_law_r13_l (List.mem_of_getElem? (i := 2) rfl), by decide +kernel, by decide +kernel, by decide +kernel, by decide +kernel⟩
theorem kL_56 : zLk RL 56 mX10_take 1 := ⟨wsL_law_r28_l (List.mem_of_getElem? (i := 17) rfl), wsL_law_r28_l (List.mem_of_getElem? (i := 18) rfl), wsL_law_r28_l (List.mem_of_getElem? (i := 19) rfl), wsL_law_r1_l (List.mem_of_getElem? (i := 5) rfl), wsL_law_r28_l (List.mem_of_getElem? (i := 20) rfl), by decide +kernel, by decide +kernel, by decide +kernel, by decide +kernel⟩
theorem kL_57 : zLk RL 57 mX9_fill 0 := ⟨wsL_law_r28_l (List.mem_of_getElem? (i := 21) rfl), wsL_law_r28_l (List.mem_of_getElem? (i := 22) rfl), wsL_law_r28_l (List.mem_of_getElem? (i := 23) rfl), wsL_law_r1_l (List.mem_of_getElem? (i := 2) rfl), wsL_law_r29_l (List.mem_of_getElem? (i := 0) rfl), by decide +kernel, by decide +kernel, by decide +kernel, by decide +kernel⟩
theorem kX9_198 : zLk RX9 198 mX3_placeDoneFirst 2 := ⟨wsL_law_r29_l (List.mem_of_getElem? (i := 2) rfl), wsL_law_r29_l (List.mem_of_getElem? (i := 3) rfl), wsL_law_r29_l (List.mem_of_getElem? (i := 4) rfl), wsL_law_r2_l (List.mem_of_getElem? (i := 3) rfl), wsL_law_r29_l (List.mem_of_getElem? (i := 5) rfl), by decide +kernel, by decide +kernel, by decide +kernel, by decide +kernel⟩
theorem kX3_92 : zLk RX3 92 mX3_firstNotRefused 3 := ⟨wsL_law_r29_l (List.mem_of_getElem? (i := 6) rfl), wsL_law_r29_l (List.mem_of_getElem? (i := 7) rfl), wsL_law_r29_l (List.mem_of_getElem? (i := 8) rfl), wsL_law_r2_l (List.mem_of_getElem? (i := 3) rfl), wsL_law_r29_l (List.mem_of_getElem? (i := 9) rfl), by decide +kernel, by decide +kernel, by decide +kernel, by decide +kernel⟩
theorem kX3_95 : zLk RX3 95 mX3_place 3 := ⟨wsL_law_r29_l (List.mem_of_getElem? (i := 10) rfl), wsL_law_r26_l (List.mem_of_getElem? (i := 12) rfl), wsL_law_r26_l (List.mem_of_getElem? (i := 13) rfl), wsL_law_r2_l (List.mem_of_getElem? (i := 3) rfl), wsL_law_r26_l (List.mem_of_getElem? (i := 14) rfl), by decide +kernel, by decide +kernel, by decide +kernel, by decide +kernel⟩
theorem kX9_202 : zLk RX9 202 mX9_stuck 2 := ⟨wsL_law_r29_l (List.mem_of_getElem? (i := 11) rfl), wsL_law_r29_l (List.mem_of_getElem? (i := 12) rfl), wsL_law_r29_l (List.mem_of_getElem? (i := 13) rfl), wsL_law_r1_l (List.mem_of_getElem? (i := 2) rfl), wsL_law_r29_l (List.mem_of_getElem? (i := 14) rfl), by decide +kernel, by decide +kernel, by decide +kernel, by decide +kernel⟩
theorem kX9_281 : zLk RX9 281 mX1_ofFill 4 := ⟨wsL_law_r29_l (List.mem_of_getElem? (i := 15) rfl), wsL_law_r29_l (List.mem_of_getElem? (i := 16) rfl), wsL_law_r29_l (List.mem_of_getElem? (i := 17) rfl), wsL_law_r2_l (List.mem_of_getElem? (i := 22) rfl), wsL_law_r29_l (List.mem_of_getElem? (i := 18) rfl), by decide +kernel, by decide +kernel, by decide +kernel, by decide +kernel⟩
theorem kX9_285 : zLk RX9 285 mX3_readFrom 1 := ⟨wsL_law_r29_l (List.mem_of_getElem? (i := 19) rfl), wsL_law_r29_l (List.mem_of_getElem? (i := 20) rfl), wsL_law_r29_l (List.mem_of_getElem? (i := 21) rfl), wsL_law_r2_l (List.mem_of_getElem? (i := 3) rfl), wsL_law_r29_l (List.mem_of_getElem? (i := 22) rfl), by decide +kernel, by decide +kernel, by decide +kernel, by decide +kernel⟩
theorem kL_60 : zLk RL 60 mX10_fill 0 := ⟨wsL_law_r29_l (List.mem_of_getElem? (i := 23) rfl), wsL_law_r30_l (List.mem_of_getElem? (i := 0) rfl), wsL_law_r30_l (List.mem_of_getElem? (i := 1) rfl), wsL_law_r1_l (List.mem_of_getElem? (i := 5) rfl), wsL_law_r30_l (List.mem_of_getElem? (i := 2) rfl), by decide +kernel, by decide +kernel, by decide +kernel, by decide +kernel⟩
theorem kX10_267 : zLk RX10 267 mX10_putAside 1 := ⟨wsL_law_r30_l (List.mem_of_getElem? (i := 3) rfl), wsL_law_r30_l (List.mem_of_getElem? (i := 4) rfl), wsL_law_r30_l (List.mem_of_getElem? (i := 5) rfl), wsL_law_r1_l (List.mem_of_getElem? (i := 5) rfl), wsL_law_r30_l (List.mem_of_getElem? (i := 6) rfl), by decide +kernel, by decide +kernel, by decide +kernel, by decide +kernel⟩
theorem kX10_271 : zLk RX10 271 mX10_nextCore 0 := ⟨wsL_law_r30_l (List.mem_of_getElem? (i := 7) rfl), wsL_law_r30_l (List.mem_of_getElem? (i := 8) rfl), wsL_law_r30_l (List.mem_of_getElem? (i := 9) rfl), wsL_law_r1_l (List.mem_of_getElem? (i := 5) rfl), wsL_law_r30_l (List.mem_of_getElem? (i := 10) rfl), by decide +kernel, by decide +kernel, by decide +kernel, by decide +kernel⟩
theorem kX10_274 : zLk RX10 274 mX10_fills 2 := ⟨wsL_law_r30_l (List.mem_of_getElem? (i := 11) rfl), wsL_law_r30_l (List.mem_of_getElem? (i := 12) rfl), wsL_law_r30_l (List.mem_of_getElem? (i := 13) rfl), wsL_law_r1_l (List.mem_of_getElem? (i := 5) rfl), wsL_law_r30_l (List.mem_of_getElem? (i := 14) rfl), by decide +kernel, by decide +kernel, by decide +kernel, by decide +kernel⟩
theorem kX10_264 : zLk RX10 264 mX10_soonestOf 3 := ⟨wsL_law_r30_l (List.mem_of_getElem? (i := 15) rfl), wsL_law_r30_l (List.mem_of_getElem? (i := 16) rfl), wsL_law_r30_l (List.mem_of_getElem? (i := 17) rfl), wsL_law_r1_l (List.mem_of_getElem? (i := 5) rfl), wsL_law_r30_l (List.mem_of_getElem? (i := 18) rfl), by decide +kernel, by decide +kernel, by decide +kernel, by decide +kernel⟩
theorem kX10_277 : zLk RX10 277 mX10_keepFilled 0 := ⟨wsL_law_r30_l (List.mem_of_getElem? (i := 19) rfl), wsL_law_r30_l (List.mem_of_getElem? (i := 20) rfl), wsL_law_r30_l (List.mem_of_getElem? (i := 21) rfl), wsL_law_r1_l (List.mem_of_getElem? (i := 5) rfl), wsL_law_r30_l (List.mem_of_getElem? (i := 22) rfl), by decide +kernel, by decide +kernel, by decide +kernel, by decide +kernel⟩
theorem kL_61 : zLk RL 61 mX9_rename 2 := ⟨wsL_law_r30_l (List.mem_of_getElem? (i := 23) rfl), wsL_law_r31_l (List.mem_of_getElem? (i := 0) rfl), wsL_law_r31_l (List.mem_of_getElem? (i := 1) rfl), wsL_law_r1_l (List.mem_of_getElem? (i := 2) rfl), wsL_law_r31_l (List.mem_of_getElem? (i := 2) rfl), by decide +kernel, by decide +kernel, by decide +kernel, by decide +kernel⟩
theorem kL_64 : zLk RL 64 mX10_rename 2 := ⟨wsL_law_r31_l (List.mem_of_getElem? (i := 3) rfl), wsL_law_r31_l (List.mem_of_getElem? (i := 4) rfl), wsL_law_r31_l (List.mem_of_getElem? (i := 5) rfl), wsL_law_r1_l (List.mem_of_getElem? (i := 5) rfl), wsL_law_r31_l (List.mem_of_getElem? (i := 6) rfl), by decide +kernel, by decide +kernel, by decide +kernel, by decide +kernel⟩
theorem kL_65 : zLk RL 65 mX9_undo 0 := ⟨wsL_law_r31_l (List.mem_of_getElem? (i := 8) rfl), wsL_law_r31_l (List.mem_of_getElem? (i := 9) rfl), wsL_law_r31_l (List.mem_of_getElem? (i := 10) rfl), wsL_law_r1_l (List.mem_of_getElem? (i := 2) rfl), wsL_law_r31_l (List.mem_of_getElem? (i := 11) rfl), by decide +kernel, by decide +kernel, by decide +kernel, by decide +kernel⟩
theorem kX9_209 : zLk RX9 209 mX6_popInto 1 := ⟨wsL_law_r31_l (List.mem_of_getElem? (i := 13) rfl), wsL_law_r31_l (List.mem_of_getElem? (i := 14) rfl), wsL_law_r31_l (List.mem_of_getElem? (i := 15) rfl), wsL_law_r2_l (List.mem_of_getElem? (i := 17) rfl), wsL_law_r31_l (List.mem_of_getElem? (i := 16) rfl), by decide +kernel, by decide +kernel, by decide +kernel, by decide +kernel⟩
theorem kX6_32 : zLk RX6 32 mX3_readFrom 1 := ⟨wsL_law_r31_l (List.mem_of_getElem? (i := 17) rfl), wsL_law_r29_l (List.mem_of_getElem? (i := 20) rfl), wsL_law_r29_l (List.mem_of_getElem? (i := 21) rfl), wsL_law_r2_l (List.mem_of_getElem? (i := 3) rfl), wsL_law_r29_l (List.mem_of_getElem? (i := 22) rfl), by decide +kernel, by decide +kernel, by decide +kernel, by decide +kernel⟩
theorem kL_68 : zLk RL 68 mX10_undo 0 := ⟨wsL_law_r31_l (List.mem_of_getElem? (i := 18) rfl), wsL_law_r31_l (List.mem_of_getElem? (i := 19) rfl), wsL_law_r31_l (List.mem_of_getElem? (i := 20) rfl), wsL_law_r1_l (List.mem_of_getElem? (i := 5) rfl), wsL_law_r31_l (List.mem_of_getElem? (i := 21) rfl), by decide +kernel, by decide +kernel, by decide +kernel, by decide +kernel⟩
theorem kL_69 : zLk RL 69 mX9_why 1 := ⟨wsL_law_r31_l (List.mem_of_getElem? (i := 22) rfl), wsL_law_r31_l (List.mem_of_getElem? (i := 23) rfl), wsL_law_r32_l (List.mem_of_getElem? (i := 0) rfl), wsL_law_r1_l (List.mem_of_getElem? (i := 2) rfl), wsL_law_r32_l (List.mem_of_getElem? (i := 1) rfl), by decide +kernel, by decide +kernel, by decide +kernel, by decide +kernel⟩
theorem kX9_219 : zLk RX9 219 mX1_number 1 := ⟨wsL_law_r32_l (List.mem_of_getElem? (i := 3) rfl), wsL_law_r32_l (List.mem_of_getElem? (i := 4) rfl), wsL_law_r32_l (List.mem_of_getElem? (i := 5) rfl), wsL_law_r2_l (List.mem_of_getElem? (i := 22) rfl), wsL_law_r32_l (List.mem_of_getElem? (i := 6) rfl), by decide +kernel, by decide +kernel, by decide +kernel, by decide +kernel⟩
theorem kL_72 : zLk RL 72 mX10_why 1 := ⟨wsL_law_r32_l (List.mem_of_getElem? (i := 7) rfl), wsL_law_r32_l (List.mem_of_getElem? (i := 8) rfl), wsL_law_r32_l (List.mem_of_getElem? (i := 9) rfl), wsL_law_r1_l (List.mem_of_getElem? (i := 5) rfl), wsL_law_r32_l (List.mem_of_getElem? (i := 10) rfl), by decide +kernel, by decide +kernel, by decide +kernel, by decide +kernel⟩
theorem kL_73 : zLk RL 73 mX9_soonest 2 := ⟨wsL_law_r32_l (List.mem_of_getElem? (i := 11) rfl), wsL_law_r32_l (List.mem_of_getElem? (i := 12) rfl), wsL_law_r32_l (List.mem_of_getElem? (i := 13) rfl), wsL_law_r1_l (List.mem_of_getElem? (i := 2) rfl), wsL_law_r32_l (List.mem_of_getElem? (i := 14) rfl), by decide +kernel, by decide +kernel, by decide +kernel, by decide +kernel⟩
theorem kX9_222 : zLk RX9 222 mX3_firstNotRefused 3 := ⟨wsL_law_r32_l (List.mem_of_getElem? (i := 15) rfl), wsL_law_r29_l (List.mem_of_getElem? (i := 7) rfl), wsL_law_r29_l (List.mem_of_getElem? (i := 8) rfl), wsL_law_r2_l (List.mem_of_getElem? (i := 3) rfl), wsL_law_r29_l (List.mem_of_getElem? (i := 9) rfl), by decide +kernel, by decide +kernel, by decide +kernel, by decide +kernel⟩
theorem kL_76 : zLk RL 76 mX10_soonest 2 := ⟨wsL_law_r32_l (List.mem_of_getElem? (i := 16) rfl), wsL_law_r32_l (List.mem_of_getElem? (i := 17) rfl), wsL_law_r32_l (List.mem_of_getElem? (i := 18) rfl), wsL_law_r1_l (List.mem_of_getElem? (i := 5) rfl), wsL_law_r32_l (List.mem_of_getElem? (i := 19) rfl), by decide +kernel, by decide +kernel, by decide +kernel, by decide +kernel⟩
theorem kL_77 : zLk RL 77 mX9_runs 2 := ⟨wsL_law_r32_l (List.mem_of_getElem? (i := 20) rfl), wsL_law_r32_l (List.mem_of_getElem? (i := 21) rfl), wsL_law_r32_l (List.mem_of_getElem? (i := 22) rfl), wsL_law_r1_l (List.mem_of_getElem? (i := 2) rfl), wsL_law_r32_l (List.mem_of_getElem? (i := 23) rfl), by decide +kernel, by decide +kernel, by decide +kernel, by decide +kernel⟩
theorem kX9_225 : zLk RX9 225 mX3_used 2 := ⟨wsL_law_r33_l (List.mem_of_getElem? (i := 0) rfl), wsL_law_r25_l (List.mem_of_getElem? (i := 2) rfl), wsL_law_r25_l (List.mem_of_getElem? (i := 3) rfl), wsL_law_r2_l (List.mem_of_getElem? (i := 3) rfl), wsL_law_r25_l (List.mem_of_getElem? (i := 4) rfl), by decide +kernel, by decide +kernel, by decide +kernel, by decide +kernel⟩
theorem kL_80 : zLk RL 80 mX10_runs 2 := ⟨wsL_law_r33_l (List.mem_of_getElem? (i := 1) rfl), wsL_law_r33_l (List.mem_of_getElem? (i := 2) rfl), wsL_law_r33_l (List.mem_of_getElem? (i := 3) rfl), wsL_law_r1_l (List.mem_of_getElem? (i := 5) rfl), wsL_law_r33_l (List.mem_of_getElem? (i := 4) rfl), by decide +kernel, by decide +kernel, by decide +kernel, by decide +kernel⟩
theorem kL_81 : zLk RL 81 mX9_bound 1 := ⟨wsL_law_r33_l (List.mem_of_getElem? (i := 5) rfl), wsL_law_r33_l (List.mem_of_getElem? (i := 6) rfl), wsL_law_r33_l (List.mem_of_getElem? (i := 7) rfl), wsL_law_r1_l (List.mem_of_getElem? (i := 2) rfl), wsL_law_r33_l (List.mem_of_getElem? (i := 8) rfl), by decide +kernel, by decide +kernel, by decide +kernel, by decide +kernel⟩
theorem kX9_228 : zLk RX9 228 mX0_area 1 := ⟨wsL_law_r33_l (List.mem_of_getElem? (i := 9) rfl), wsL_law_r33_l (List.mem_of_getElem? (i := 10) rfl), wsL_law_r33_l (List.mem_of_getElem? (i := 11) rfl), wsL_law_r2_l (List.mem_of_getElem? (i := 7) rfl), wsL_law_r33_l (List.mem_of_getElem? (i := 12) rfl), by decide +kernel, by decide +kernel, by decide +kernel, by decide +kernel⟩
theorem kX0_29 : zLk RX0 29 mX3_takes 2 := ⟨wsL_law_r33_l (List.mem_of_getElem? (i := 19) rfl), wsL_law_r20_l (List.mem_of_getElem? (i := 10) rfl), wsL_law_r20_l (List.mem_of_getElem? (i := 11) rfl), wsL_law_r2_l (List.mem_of_getElem? (i := 3) rfl), wsL_law_r20_l (List.mem_of_getElem? (i := 12) rfl), by decide +kernel, by decide +kernel, by decide +kernel, by decide +kernel⟩
theorem kX0_40 : zLs RX0 40 mX0_upward 2 := ⟨wsL_law_r33_l (List.mem_of_getElem? (i := 20) rfl), wsL_law_r33_l (List.mem_of_getElem? (i := 21) rfl), wsL_law_r2_l (List.mem_of_getElem? (i := 7) rfl), wsL_law_r33_l (List.mem_of_getElem? (i := 22) rfl), rfl, by decide +kernel, by decide +kernel, by decide +kernel, by decide +kernel⟩
theorem kX9_232 : zLk RX9 232 mX0_path 1 := ⟨wsL_law_r33_l (List.mem_of_getElem? (i := 23) rfl), wsL_law_r34_l (List.mem_of_getElem? (i := 0) rfl), wsL_law_r34_l (List.mem_of_getElem? (i := 1) rfl), wsL_law_r2_l (List.mem_of_getElem? (i := 7) rfl), wsL_law_r34_l (List.mem_of_getElem? (i := 2) rfl), by decide +kernel, by decide +kernel, by decide +kernel, by decide +kernel⟩
theorem kX0_49 : zLk RX0 49 mX3_leastTaken 1 := ⟨wsL_law_r34_l (List.mem_of_getElem? (i := 5) rfl), wsL_law_r34_l (List.mem_of_getElem? (i := 6) rfl), wsL_law_r34_l (List.mem_of_getElem? (i := 7) rfl), wsL_law_r2_l (List.mem_of_getElem? (i := 3) rfl), wsL_law_r34_l (List.mem_of_getElem? (i := 8) rfl), by decide +kernel, by decide +kernel, by decide +kernel, by decide +kernel⟩
theorem kX9_235 : zLk RX9 235 mX0_drawn 1 := ⟨wsL_law_r34_l (List.mem_of_getElem? (i := 10) rfl), wsL_law_r34_l (List.mem_of_getElem? (i := 11) rfl), wsL_law_r34_l (List.mem_of_getElem? (i := 12) rfl), wsL_law_r2_l (List.mem_of_getElem? (i := 7) rfl), wsL_law_r34_l (List.mem_of_getElem? (i := 13) rfl), by decide +kernel, by decide +kernel, by decide +kernel, by decide +kernel⟩
theorem kX9_238 : zLk RX9 238 mX0_greatest 1 := ⟨wsL_law_r34_l (List.mem_of_getElem? (i := 16) rfl), wsL_law_r34_l (List.mem_of_getElem? (i := 17) rfl), wsL_law_r34_l (List.mem_of_getElem? (i := 18) rfl), wsL_law_r2_l (List.mem_of_getElem? (i := 7) rfl), wsL_law_r34_l (List.mem_of_getElem? (i := 19) rfl), by decide +kernel, by decide +kernel, by decide +kernel, by decide +kernel⟩
theorem kX0_59 : zLk RX0 59 mX0_area 1 := ⟨wsL_law_r34_l (List.mem_of_getElem? (i := 20) rfl), wsL_law_r33_l (List.mem_of_getElem? (i := 10) rfl), wsL_law_r33_l (List.mem_of_getElem? (i := 11) rfl), wsL_law_r2_l (List.mem_of_getElem? (i := 7) rfl), wsL_law_r33_l (List.mem_of_getElem? (i := 12) rfl), by decide +kernel, by decide +kernel, by decide +kernel, by decide +kernel⟩
theorem kX0_63 : zLk RX0 63 mX0_path 1 := ⟨wsL_law_r34_l (List.mem_of_getElem? (i := 21) rfl), wsL_law_r34_l (List.mem_of_getElem? (i := 0) rfl), wsL_law_r34_l (List.mem_of_getElem? (i := 1) rfl), wsL_law_r2_l (List.mem_of_getElem? (i := 7) rfl), wsL_law_r34_l (List.mem_of_getElem? (i := 2) rfl), by decide +kernel, by decide +kernel, by decide +kernel, by decide +kernel⟩
theorem kX0_66 : zLk RX0 66 mX0_drawn 1 := ⟨wsL_law_r34_l (List.mem_of_getElem? (i := 22) rfl), wsL_law_r34_l (List.mem_of_getElem? (i := 11) rfl), wsL_law_r34_l (List.mem_of_getElem? (i := 12) rfl), wsL_law_r2_l (List.mem_of_getElem? (i := 7) rfl), wsL_law_r34_l (List.mem_of_getElem? (i := 13) rfl), by decide +kernel, by decide +kernel, by decide +kernel, by decide +kernel⟩
theorem kL_84 : zLk RL 84 mX10_bound 1 := ⟨wsL_law_r34_l (List.mem_of_getElem? (i := 23) rfl), wsL_law_r35_l (List.mem_of_getElem? (i := 0) rfl), wsL_law_r35_l (List.mem_of_getElem? (i := 1) rfl), wsL_law_r1_l (List.mem_of_getElem? (i := 5) rfl), wsL_law_r35_l (List.mem_of_getElem? (i := 2) rfl), by decide +kernel, by decide +kernel, by decide +kernel, by decide +kernel⟩
theorem kX10_288 : zLk RX10 288 mX10_areaOf 0 := ⟨wsL_law_r35_l (List.mem_of_getElem? (i := 3) rfl), wsL_law_r35_l (List.mem_of_getElem? (i := 4) rfl), wsL_law_r35_l (List.mem_of_getElem? (i := 5) rfl), wsL_law_r1_l (List.mem_of_getElem? (i := 5) rfl), wsL_law_r35_l (List.mem_of_getElem? (i := 6) rfl), by decide +kernel, by decide +kernel, by decide +kernel, by decide +kernel⟩
theorem kX10_282 : zLs RX10 282 mX10_upward 2 := ⟨wsL_law_r35_l (List.mem_of_getElem? (i := 7) rfl), wsL_law_r35_l (List.mem_of_getElem? (i := 8) rfl), wsL_law_r1_l (List.mem_of_getElem? (i := 5) rfl), wsL_law_r35_l (List.mem_of_getElem? (i := 9) rfl), rfl, by decide +kernel, by decide +kernel, by decide +kernel, by decide +kernel⟩
theorem kX10_291 : zLk RX10 291 mX10_pathOf 0 := ⟨wsL_law_r35_l (List.mem_of_getElem? (i := 10) rfl), wsL_law_r35_l (List.mem_of_getElem? (i := 11) rfl), wsL_law_r35_l (List.mem_of_getElem? (i := 12) rfl), wsL_law_r1_l (List.mem_of_getElem? (i := 5) rfl), wsL_law_r35_l (List.mem_of_getElem? (i := 13) rfl), by decide +kernel, by decide +kernel, by decide +kernel, by decide +kernel⟩
theorem kX10_285 : zLk RX10 285 mX10_leastTakes 1 := ⟨wsL_law_r35_l (List.mem_of_getElem? (i := 14) rfl), wsL_law_r35_l (List.mem_of_getElem? (i := 15) rfl), wsL_law_r35_l (List.mem_of_getElem? (i := 16) rfl), wsL_law_r1_l (List.mem_of_getElem? (i := 5) rfl), wsL_law_r35_l (List.mem_of_getElem? (i := 17) rfl), by decide +kernel, by decide +kernel, by decide +kernel, by decide +kernel⟩
theorem kX10_294 : zLk RX10 294 mX10_drawnOf 0 := ⟨wsL_law_r35_l (List.mem_of_getElem? (i := 18) rfl), wsL_law_r35_l (List.mem_of_getElem? (i := 19) rfl), wsL_law_r35_l (List.mem_of_getElem? (i := 20) rfl), wsL_law_r1_l (List.mem_of_getElem? (i := 5) rfl), wsL_law_r35_l (List.mem_of_getElem? (i := 21) rfl), by decide +kernel, by decide +kernel, by decide +kernel, by decide +kernel⟩
theorem kL_85 : zLk RL 85 mX9_best 1 := ⟨wsL_law_r35_l (List.mem_of_getElem? (i := 22) rfl), wsL_law_r35_l (List.mem_of_getElem? (i := 23) rfl), wsL_law_r36_l (List.mem_of_getElem? (i := 0) rfl), wsL_law_r1_l (List.mem_of_getElem? (i := 2) rfl), wsL_law_r36_l (List.mem_of_getElem? (i := 1) rfl), by decide +kernel, by decide +kernel, by decide +kernel, by decide +kernel⟩
theorem kX9_241 : zLk RX9 241 mX5_leastLength 2 := ⟨wsL_law_r36_l (List.mem_of_getElem? (i := 2) rfl), wsL_law_r36_l (List.mem_of_getElem? (i := 3) rfl), wsL_law_r36_l (List.mem_of_getElem? (i := 4) rfl), wsL_law_r2_l (List.mem_of_getElem? (i := 11) rfl), wsL_law_r36_l (List.mem_of_getElem? (i := 5) rfl), by decide +kernel, by decide +kernel, by decide +kernel, by decide +kernel⟩
theorem kX5_71 : zLk RX5 71 mX3_startOver 1 := ⟨wsL_law_r36_l (List.mem_of_getElem? (i := 10) rfl), wsL_law_r12_l (List.mem_of_getElem? (i := 17) rfl), wsL_law_r12_l (List.mem_of_getElem? (i := 18) rfl), wsL_law_r2_l (List.mem_of_getElem? (i := 3) rfl), wsL_law_r12_l (List.mem_of_getElem? (i := 19) rfl), by decide +kernel, by decide +kernel, by decide +kernel, by decide +kernel⟩
theorem kX5_75 : zLk RX5 75 mX0_greatest 1 := ⟨wsL_law_r36_l (List.mem_of_getElem? (i := 11) rfl), wsL_law_r34_l (List.mem_of_getElem? (i := 17) rfl), wsL_law_r34_l (List.mem_of_getElem? (i := 18) rfl), wsL_law_r2_l (List.mem_of_getElem? (i := 7) rfl), wsL_law_r34_l (List.mem_of_getElem? (i := 19) rfl), by decide +kernel, by decide +kernel, by decide +kernel, by decide +kernel⟩
theorem kX5_79 : zLs RX5 79 mX5_tryAll 4 := ⟨wsL_law_r36_l (List.mem_of_getElem? (i := 12) rfl), wsL_law_r36_l (List.mem_of_getElem? (i := 13) rfl), wsL_law_r2_l (List.mem_of_getElem? (i := 11) rfl), wsL_law_r36_l (List.mem_of_getElem? (i := 14) rfl), rfl, by decide +kernel, by decide +kernel, by decide +kernel, by decide +kernel⟩
theorem kX5_92 : zLk RX5 92 mX3_placeDoneFirst 2 := ⟨wsL_law_r36_l (List.mem_of_getElem? (i := 19) rfl), wsL_law_r29_l (List.mem_of_getElem? (i := 3) rfl), wsL_law_r29_l (List.mem_of_getElem? (i := 4) rfl), wsL_law_r2_l (List.mem_of_getElem? (i := 3) rfl), wsL_law_r29_l (List.mem_of_getElem? (i := 5) rfl), by decide +kernel, by decide +kernel, by decide +kernel, by decide +kernel⟩
theorem kX5_105 : zLk RX5 105 mX3_takeOff 1 := ⟨wsL_law_r36_l (List.mem_of_getElem? (i := 20) rfl), wsL_law_r13_l (List.mem_of_getElem? (i := 0) rfl), wsL_law_r13_l (List.mem_of_getElem? (i := 1) rfl), wsL_law_r2_l (List.mem_of_getElem? (i := 3) rfl), wsL_law_r13_l (List.mem_of_getElem? (i := 2) rfl), by decide +kernel, by decide +kernel, by decide +kernel, by decide +kernel⟩
theorem kX9_245 : zLk RX9 245 mX5_placedAt 1 := ⟨wsL_law_r36_l (List.mem_of_getElem? (i := 21) rfl), wsL_law_r36_l (List.mem_of_getElem? (i := 22) rfl), wsL_law_r36_l (List.mem_of_getElem? (i := 23) rfl), wsL_law_r2_l (List.mem_of_getElem? (i := 11) rfl), wsL_law_r37_l (List.mem_of_getElem? (i := 0) rfl), by decide +kernel, by decide +kernel, by decide +kernel, by decide +kernel⟩
theorem kL_88 : zLk RL 88 mX10_best 1 := ⟨wsL_law_r37_l (List.mem_of_getElem? (i := 1) rfl), wsL_law_r37_l (List.mem_of_getElem? (i := 2) rfl), wsL_law_r37_l (List.mem_of_getElem? (i := 3) rfl), wsL_law_r1_l (List.mem_of_getElem? (i := 5) rfl), wsL_law_r37_l (List.mem_of_getElem? (i := 4) rfl), by decide +kernel, by decide +kernel, by decide +kernel, by decide +kernel⟩
theorem kX10_309 : zLk RX10 309 mX10_bestBy 1 := ⟨wsL_law_r37_l (List.mem_of_getElem? (i := 6) rfl), wsL_law_r37_l (List.mem_of_getElem? (i := 7) rfl), wsL_law_r37_l (List.mem_of_getElem? (i := 8) rfl), wsL_law_r1_l (List.mem_of_getElem? (i := 5) rfl), wsL_law_r37_l (List.mem_of_getElem? (i := 9) rfl), by decide +kernel, by decide +kernel, by decide +kernel, by decide +kernel⟩
theorem kX10_301 : zLk RX10 301 mX10_goOrder 1 := ⟨wsL_law_r37_l (List.mem_of_getElem? (i := 10) rfl), wsL_law_r37_l (List.mem_of_getElem? (i := 11) rfl), wsL_law_r37_l (List.mem_of_getElem? (i := 12) rfl), wsL_law_r1_l (List.mem_of_getElem? (i := 5) rfl), wsL_law_r37_l (List.mem_of_getElem? (i := 13) rfl), by decide +kernel, by decide +kernel, by decide +kernel, by decide +kernel⟩
theorem kX10_304 : zLk RX10 304 mX10_nextOrder 0 := ⟨wsL_law_r37_l (List.mem_of_getElem? (i := 14) rfl), wsL_law_r37_l (List.mem_of_getElem? (i := 15) rfl), wsL_law_r37_l (List.mem_of_getElem? (i := 16) rfl), wsL_law_r1_l (List.mem_of_getElem? (i := 5) rfl), wsL_law_r37_l (List.mem_of_getElem? (i := 17) rfl), by decide +kernel, by decide +kernel, by decide +kernel, by decide +kernel⟩
theorem kX10_297 : zLk RX10 297 mX10_swap 2 := ⟨wsL_law_r37_l (List.mem_of_getElem? (i := 18) rfl), wsL_law_r37_l (List.mem_of_getElem? (i := 19) rfl), wsL_law_r37_l (List.mem_of_getElem? (i := 20) rfl), wsL_law_r1_l (List.mem_of_getElem? (i := 5) rfl), wsL_law_r37_l (List.mem_of_getElem? (i := 21) rfl), by decide +kernel, by decide +kernel, by decide +kernel, by decide +kernel⟩
theorem kL_89 : zLk RL 89 mX9_costs 1 := ⟨wsL_law_r37_l (List.mem_of_getElem? (i := 22) rfl), wsL_law_r37_l (List.mem_of_getElem? (i := 23) rfl), wsL_law_r38_l (List.mem_of_getElem? (i := 0) rfl), wsL_law_r1_l (List.mem_of_getElem? (i := 2) rfl), wsL_law_r38_l (List.mem_of_getElem? (i := 1) rfl), by decide +kernel, by decide +kernel, by decide +kernel, by decide +kernel⟩
theorem kL_92 : zLk RL 92 mX10_costs 1 := ⟨wsL_law_r38_l (List.mem_of_getElem? (i := 4) rfl), wsL_law_r38_l (List.mem_of_getElem? (i := 5) rfl), wsL_law_r38_l (List.mem_of_getElem? (i := 6) rfl), wsL_law_r1_l (List.mem_of_getElem? (i := 5) rfl), wsL_law_r38_l (List.mem_of_getElem? (i := 7) rfl), by decide +kernel, by decide +kernel, by decide +kernel, by decide +kernel⟩
theorem kL_93 : zLk RL 93 mX9_seen 3 := ⟨wsL_law_r38_l (List.mem_of_getElem? (i := 8) rfl), wsL_law_r38_l (List.mem_of_getElem? (i := 9) rfl), wsL_law_r38_l (List.mem_of_getElem? (i := 10) rfl), wsL_law_r1_l (List.mem_of_getElem? (i := 2) rfl), wsL_law_r38_l (List.mem_of_getElem? (i := 11) rfl), by decide +kernel, by decide +kernel, by decide +kernel, by decide +kernel⟩
theorem kX9_253 : zLk RX9 253 mX7_add 3 := ⟨wsL_law_r38_l (List.mem_of_getElem? (i := 13) rfl), wsL_law_r38_l (List.mem_of_getElem? (i := 14) rfl), wsL_law_r38_l (List.mem_of_getElem? (i := 15) rfl), wsL_law_r3_l (List.mem_of_getElem? (i := 2) rfl), wsL_law_r38_l (List.mem_of_getElem? (i := 16) rfl), by decide +kernel, by decide +kernel, by decide +kernel, by decide +kernel⟩
theorem kL_96 : zLk RL 96 mX10_seen 3 := ⟨wsL_law_r38_l (List.mem_of_getElem? (i := 17) rfl), wsL_law_r38_l (List.mem_of_getElem? (i := 18) rfl), wsL_law_r38_l (List.mem_of_getElem? (i := 19) rfl), wsL_law_r1_l (List.mem_of_getElem? (i := 5) rfl), wsL_law_r38_l (List.mem_of_getElem? (i := 20) rfl), by decide +kernel, by decide +kernel, by decide +kernel, by decide +kernel⟩
theorem kL_97 : zLk RL 97 mX9_forget 0 := ⟨wsL_law_r38_l (List.mem_of_getElem? (i := 22) rfl), wsL_law_r38_l (List.mem_of_getElem? (i := 23) rfl), wsL_law_r39_l (List.mem_of_getElem? (i := 0) rfl), wsL_law_r1_l (List.mem_of_getElem? (i := 2) rfl), wsL_law_r39_l (List.mem_of_getElem? (i := 1) rfl), by decide +kernel, by decide +kernel, by decide +kernel, by decide +kernel⟩
theorem kL_100 : zLk RL 100 mX10_forget 0 := ⟨wsL_law_r39_l (List.mem_of_getElem? (i := 2) rfl), wsL_law_r39_l (List.mem_of_getElem? (i := 3) rfl), wsL_law_r39_l (List.mem_of_getElem? (i := 4) rfl), wsL_law_r1_l (List.mem_of_getElem? (i := 5) rfl), wsL_law_r39_l (List.mem_of_getElem? (i := 5) rfl), by decide +kernel, by decide +kernel, by decide +kernel, by decide +kernel⟩
theorem kL_101 : zLk RL 101 mX9_kinds 1 := ⟨wsL_law_r39_l (List.mem_of_getElem? (i := 6) rfl), wsL_law_r39_l (List.mem_of_getElem? (i := 7) rfl), wsL_law_r39_l (List.mem_of_getElem? (i := 8) rfl), wsL_law_r1_l (List.mem_of_getElem? (i := 2) rfl), wsL_law_r39_l (List.mem_of_getElem? (i := 9) rfl), by decide +kernel, by decide +kernel, by decide +kernel, by decide +kernel⟩
theorem kX9_256 : zLk RX9 256 mX7_kindsOf 1 := ⟨wsL_law_r39_l (List.mem_of_getElem? (i := 10) rfl), wsL_law_r39_l (List.mem_of_getElem? (i := 11) rfl), wsL_law_r39_l (List.mem_of_getElem? (i := 12) rfl), wsL_law_r3_l (List.mem_of_getElem? (i := 2) rfl), wsL_law_r39_l (List.mem_of_getElem? (i := 13) rfl), by decide +kernel, by decide +kernel, by decide +kernel, by decide +kernel⟩
theorem kX7_29 : zLk RX7 29 mX7_agree 2 := ⟨wsL_law_r39_l (List.mem_of_getElem? (i := 14) rfl), wsL_law_r39_l (List.mem_of_getElem? (i := 15) rfl), wsL_law_r39_l (List.mem_of_getElem? (i := 16) rfl), wsL_law_r3_l (List.mem_of_getElem? (i := 2) rfl), wsL_law_r39_l (List.mem_of_getElem? (i := 17) rfl), by decide +kernel, by decide +kernel, by decide +kernel, by decide +kernel⟩
theorem kX7_33 : zLk RX7 33 mX2_takes 3 := ⟨wsL_law_r39_l (List.mem_of_getElem? (i := 18) rfl), wsL_law_r20_l (List.mem_of_getElem? (i := 14) rfl), wsL_law_r20_l (List.mem_of_getElem? (i := 15) rfl), wsL_law_r1_l (List.mem_of_getElem? (i := 22) rfl), wsL_law_r20_l (List.mem_of_getElem? (i := 16) rfl), by decide +kernel, by decide +kernel, by decide +kernel, by decide +kernel⟩
theorem kL_104 : zLk RL 104 mX10_kinds 1 := ⟨wsL_law_r39_l (List.mem_of_getElem? (i := 19) rfl), wsL_law_r39_l (List.mem_of_getElem? (i := 20) rfl), wsL_law_r39_l (List.mem_of_getElem? (i := 21) rfl), wsL_law_r1_l (List.mem_of_getElem? (i := 5) rfl), wsL_law_r39_l (List.mem_of_getElem? (i := 22) rfl), by decide +kernel, by decide +kernel, by decide +kernel, by decide +kernel⟩
theorem kL_105 : zLk RL 105 mX9_keep 0 := ⟨wsL_law_r39_l (List.mem_of_getElem? (i := 23) rfl), wsL_law_r40_l (List.mem_of_getElem? (i := 0) rfl), wsL_law_r40_l (List.mem_of_getElem? (i := 1) rfl), wsL_law_r1_l (List.mem_of_getElem? (i := 2) rfl), wsL_law_r40_l (List.mem_of_getElem? (i := 2) rfl), by decide +kernel, by decide +kernel, by decide +kernel, by decide +kernel⟩
theorem kL_108 : zLk RL 108 mX10_keep 0 := ⟨wsL_law_r40_l (List.mem_of_getElem? (i := 3) rfl), wsL_law_r40_l (List.mem_of_getElem? (i := 4) rfl), wsL_law_r40_l (List.mem_of_getElem? (i := 5) rfl), wsL_law_r1_l (List.mem_of_getElem? (i := 5) rfl), wsL_law_r40_l (List.mem_of_getElem? (i := 6) rfl), by decide +kernel, by decide +kernel, by decide +kernel, by decide +kernel⟩
theorem kL_109 : zLk RL 109 mX9_back 0 := ⟨wsL_law_r40_l (List.mem_of_getElem? (i := 7) rfl), wsL_law_r40_l (List.mem_of_getElem? (i := 8) rfl), wsL_law_r40_l (List.mem_of_getElem? (i := 9) rfl), wsL_law_r1_l (List.mem_of_getElem? (i := 2) rfl), wsL_law_r40_l (List.mem_of_getElem? (i := 10) rfl), by decide +kernel, by decide +kernel, by decide +kernel, by decide +kernel⟩
theorem kL_112 : zLk RL 112 mX10_back 0 := ⟨wsL_law_r40_l (List.mem_of_getElem? (i := 11) rfl), wsL_law_r40_l (List.mem_of_getElem? (i := 12) rfl), wsL_law_r40_l (List.mem_of_getElem? (i := 13) rfl), wsL_law_r1_l (List.mem_of_getElem? (i := 5) rfl), wsL_law_r40_l (List.mem_of_getElem? (i := 14) rfl), by decide +kernel, by decide +kernel, by decide +kernel, by decide +kernel⟩
theorem kL_113 : zLk RL 113 mX9_count 1 := ⟨wsL_law_r40_l (List.mem_of_getElem? (i := 15) rfl), wsL_law_r40_l (List.mem_of_getElem? (i := 16) rfl), wsL_law_r40_l (List.mem_of_getElem? (i := 17) rfl), wsL_law_r1_l (List.mem_of_getElem? (i := 2) rfl), wsL_law_r40_l (List.mem_of_getElem? (i := 18) rfl), by decide +kernel, by decide +kernel, by decide +kernel, by decide +kernel⟩
theorem kX9_266 : zLk RX9 266 mX3_manyPut 0 := ⟨wsL_law_r40_l (List.mem_of_getElem? (i := 20) rfl), wsL_law_r40_l (List.mem_of_getElem? (i := 21) rfl), wsL_law_r40_l (List.mem_of_getElem? (i := 22) rfl), wsL_law_r2_l (List.mem_of_getElem? (i := 3) rfl), wsL_law_r40_l (List.mem_of_getElem? (i := 23) rfl), by decide +kernel, by decide +kernel, by decide +kernel, by decide +kernel⟩
theorem kL_116 : zLk RL 116 mX10_count 1 := ⟨wsL_law_r41_l (List.mem_of_getElem? (i := 0) rfl), wsL_law_r41_l (List.mem_of_getElem? (i := 1) rfl), wsL_law_r41_l (List.mem_of_getElem? (i := 2) rfl), wsL_law_r1_l (List.mem_of_getElem? (i := 5) rfl), wsL_law_r41_l (List.mem_of_getElem? (i := 3) rfl), by decide +kernel, by decide +kernel, by decide +kernel, by decide +kernel⟩
theorem kX10_314 : zLk RX10 314 mX10_putMany 0 := ⟨wsL_law_r41_l (List.mem_of_getElem? (i := 4) rfl), wsL_law_r41_l (List.mem_of_getElem? (i := 5) rfl), wsL_law_r41_l (List.mem_of_getElem? (i := 6) rfl), wsL_law_r1_l (List.mem_of_getElem? (i := 5) rfl), wsL_law_r41_l (List.mem_of_getElem? (i := 7) rfl), by decide +kernel, by decide +kernel, by decide +kernel, by decide +kernel⟩
theorem kX10_317 : zLk RX10 317 mX10_lengthNow 0 := ⟨wsL_law_r41_l (List.mem_of_getElem? (i := 8) rfl), wsL_law_r41_l (List.mem_of_getElem? (i := 9) rfl), wsL_law_r41_l (List.mem_of_getElem? (i := 10) rfl), wsL_law_r1_l (List.mem_of_getElem? (i := 5) rfl), wsL_law_r41_l (List.mem_of_getElem? (i := 11) rfl), by decide +kernel, by decide +kernel, by decide +kernel, by decide +kernel⟩
theorem p1_1 : zFp 1 1 false .int := fun C T N h => by
  have h2 : (RX1, TX1, 2) = (C, T, N) := Option.some.inj h
  cases h2
  exact ⟨⟨tyX1, tyX1_ok⟩, nmX1, rfl, by decide +kernel⟩
theorem p2_0 : zFp 2 0 false .int := fun C T N h => by
  have h2 : (RX2, TX2, 15) = (C, T, N) := Option.some.inj h
  cases h2
  exact ⟨⟨tyX2, tyX2_ok⟩, nmX2, rfl, by decide +kernel⟩
theorem p2_1 : zFp 2 1 false .int := fun C T N h => by
  have h2 : (RX2, TX2, 15) = (C, T, N) := Option.some.inj h
  cases h2
  exact ⟨⟨tyX2, tyX2_ok⟩, nmX2, rfl, by decide +kernel⟩
theorem p2_2 : zFp 2 2 false .int := fun C T N h => by
  have h2 : (RX2, TX2, 15) = (C, T, N) := Option.some.inj h
  cases h2
  exact ⟨⟨tyX2, tyX2_ok⟩, nmX2, rfl, by decide +kernel⟩
theorem p2_3 : zFp 2 3 false .int := fun C T N h => by
  have h2 : (RX2, TX2, 15) = (C, T, N) := Option.some.inj h
  cases h2
  exact ⟨⟨tyX2, tyX2_ok⟩, nmX2, rfl, by decide +kernel⟩
theorem p4_1 : zFp 4 1 false .int := fun C T N h => by
  have h2 : (RX4, TX4, 2) = (C, T, N) := Option.some.inj h
  cases h2
  exact ⟨⟨tyX4, tyX4_ok⟩, nmX4, rfl, by decide +kernel⟩
theorem p5_7 : zFp 5 7 false .int := fun C T N h => by
  have h2 : (RX5, TX5, 10) = (C, T, N) := Option.some.inj h
  cases h2
  exact ⟨⟨tyX5, tyX5_ok⟩, nmX5, rfl, by decide +kernel⟩
theorem p5_8 : zFp 5 8 false .int := fun C T N h => by
  have h2 : (RX5, TX5, 10) = (C, T, N) := Option.some.inj h
  cases h2
  exact ⟨⟨tyX5, tyX5_ok⟩, nmX5, rfl, by decide +kernel⟩
theorem p5_9 : zFp 5 9 false .int := fun C T N h => by
  have h2 : (RX5, TX5, 10) = (C, T, N) := Option.some.inj h
  cases h2
  exact ⟨⟨tyX5, tyX5_ok⟩, nmX5, rfl, by decide +kernel⟩
theorem p6_1 : zFp 6 1 false .int := fun C T N h => by
  have h2 : (RX6, TX6, 2) = (C, T, N) := Option.some.inj h
  cases h2
  exact ⟨⟨tyX6, tyX6_ok⟩, nmX6, rfl, by decide +kernel⟩
theorem p7_4 : zFp 7 4 false .int := fun C T N h => by
  have h2 : (RX7, TX7, 5) = (C, T, N) := Option.some.inj h
  cases h2
  exact ⟨⟨tyX7, tyX7_ok⟩, nmX7, rfl, by decide +kernel⟩
theorem p8_1 : zFp 8 1 false .int := fun C T N h => by
  have h2 : (RX8, TX8, 2) = (C, T, N) := Option.some.inj h
  cases h2
  exact ⟨⟨tyX8, tyX8_ok⟩, nmX8, rfl, by decide +kernel⟩
theorem p10_0 : zFp 10 0 false .int := fun C T N h => by
  have h2 : (RX10, TX10, 44) = (C, T, N) := Option.some.inj h
  cases h2
  exact ⟨⟨tyX10, tyX10_ok⟩, nmX10, rfl, by decide +kernel⟩
theorem p10_1 : zFp 10 1 false .int := fun C T N h => by
  have h2 : (RX10, TX10, 44) = (C, T, N) := Option.some.inj h
  cases h2
  exact ⟨⟨tyX10, tyX10_ok⟩, nmX10, rfl, by decide +kernel⟩
theorem p10_2 : zFp 10 2 false .int := fun C T N h => by
  have h2 : (RX10, TX10, 44) = (C, T, N) := Option.some.inj h
  cases h2
  exact ⟨⟨tyX10, tyX10_ok⟩, nmX10, rfl, by decide +kernel⟩
theorem p10_3 : zFp 10 3 false .int := fun C T N h => by
  have h2 : (RX10, TX10, 44) = (C, T, N) := Option.some.inj h
  cases h2
  exact ⟨⟨tyX10, tyX10_ok⟩, nmX10, rfl, by decide +kernel⟩
theorem p10_12 : zFp 10 12 false .int := fun C T N h => by
  have h2 : (RX10, TX10, 44) = (C, T, N) := Option.some.inj h
  cases h2
  exact ⟨⟨tyX10, tyX10_ok⟩, nmX10, rfl, by decide +kernel⟩
theorem p10_14 : zFp 10 14 false .int := fun C T N h => by
  have h2 : (RX10, TX10, 44) = (C, T, N) := Option.some.inj h
  cases h2
  exact ⟨⟨tyX10, tyX10_ok⟩, nmX10, rfl, by decide +kernel⟩
theorem p10_16 : zFp 10 16 false .int := fun C T N h => by
  have h2 : (RX10, TX10, 44) = (C, T, N) := Option.some.inj h
  cases h2
  exact ⟨⟨tyX10, tyX10_ok⟩, nmX10, rfl, by decide +kernel⟩
theorem p10_18 : zFp 10 18 false .int := fun C T N h => by
  have h2 : (RX10, TX10, 44) = (C, T, N) := Option.some.inj h
  cases h2
  exact ⟨⟨tyX10, tyX10_ok⟩, nmX10, rfl, by decide +kernel⟩
theorem p10_20 : zFp 10 20 false .int := fun C T N h => by
  have h2 : (RX10, TX10, 44) = (C, T, N) := Option.some.inj h
  cases h2
  exact ⟨⟨tyX10, tyX10_ok⟩, nmX10, rfl, by decide +kernel⟩
theorem p10_21 : zFp 10 21 false .int := fun C T N h => by
  have h2 : (RX10, TX10, 44) = (C, T, N) := Option.some.inj h
  cases h2
  exact ⟨⟨tyX10, tyX10_ok⟩, nmX10, rfl, by decide +kernel⟩
theorem p10_22 : zFp 10 22 false .int := fun C T N h => by
  have h2 : (RX10, TX10, 44) = (C, T, N) := Option.some.inj h
  cases h2
  exact ⟨⟨tyX10, tyX10_ok⟩, nmX10, rfl, by decide +kernel⟩
theorem p10_23 : zFp 10 23 false .int := fun C T N h => by
  have h2 : (RX10, TX10, 44) = (C, T, N) := Option.some.inj h
  cases h2
  exact ⟨⟨tyX10, tyX10_ok⟩, nmX10, rfl, by decide +kernel⟩
theorem p10_24 : zFp 10 24 false .int := fun C T N h => by
  have h2 : (RX10, TX10, 44) = (C, T, N) := Option.some.inj h
  cases h2
  exact ⟨⟨tyX10, tyX10_ok⟩, nmX10, rfl, by decide +kernel⟩
theorem p10_25 : zFp 10 25 false .int := fun C T N h => by
  have h2 : (RX10, TX10, 44) = (C, T, N) := Option.some.inj h
  cases h2
  exact ⟨⟨tyX10, tyX10_ok⟩, nmX10, rfl, by decide +kernel⟩
theorem p10_26 : zFp 10 26 false .int := fun C T N h => by
  have h2 : (RX10, TX10, 44) = (C, T, N) := Option.some.inj h
  cases h2
  exact ⟨⟨tyX10, tyX10_ok⟩, nmX10, rfl, by decide +kernel⟩
theorem p10_37 : zFp 10 37 false .int := fun C T N h => by
  have h2 : (RX10, TX10, 44) = (C, T, N) := Option.some.inj h
  cases h2
  exact ⟨⟨tyX10, tyX10_ok⟩, nmX10, rfl, by decide +kernel⟩
theorem p10_38 : zFp 10 38 false .int := fun C T N h => by
  have h2 : (RX10, TX10, 44) = (C, T, N) := Option.some.inj h
  cases h2
  exact ⟨⟨tyX10, tyX10_ok⟩, nmX10, rfl, by decide +kernel⟩
def zWL : List (List (Option Nat)) := [[some 1, some 3, some 4, some 34, some 64, some 70, some 72, some 94, some 95, some 105, some 109, some 111], [some 2], [], [some 1], [none, none, none, none, some 5, some 6, some 7, some 8, some 9, some 16, some 17, some 18, some 25, some 32, some 33], [], [], [], [], [some 10, some 11, some 12, some 13, some 14, some 15], [], [], [], [], [], [], [], [], [some 19, some 20, some 21, some 22, some 23, some 24], [], [], [], [], [], [], [some 26, some 27, some 28, some 29, some 30, some 31], [], [], [], [], [], [], [], [], [none, none, none, none, some 35, some 36, some 37, some 38, some 39, some 46, some 47, some 48, some 55, some 62, some 63], [], [], [], [], [some 40, some 41, some 42, some 43, some 44, some 45], [], [], [], [], [], [], [], [], [some 49, some 50, some 51, some 52, some 53, some 54], [], [], [], [], [], [], [some 56, some 57, some 58, some 59, some 60, some 61], [], [], [], [], [], [], [], [], [some 34, some 65, some 66, some 67, some 68, some 69], [], [], [], [], [], [some 34, some 71], [], [some 34, some 86, some 92, some 73, some 74, some 84, some 85], [], [some 75, some 76, some 77, some 78, some 79, some 80, some 81, some 82, some 83], [], [], [], [], [], [], [], [], [], [], [], [some 34, some 87, some 88, some 89, some 90, some 91], [], [], [], [], [], [some 34, some 93], [], [], [some 96], [], [], [], [], [], [], [], [], [], [some 106], [], [], [], [some 110], [], [some 34, some 112, some 113, some 114], [], [], [], [none, none, none, none, some 116, some 117, some 118, some 119, some 120, some 121, some 122, some 123, none, some 124, none, some 125, none, some 126, none, some 127, none, none, none, none, none, none, none, some 128, some 129, some 130, some 131, some 132, some 133, some 134, some 135, some 136, some 137, none, none, some 138, some 139, some 140, some 141, some 142]]
def zW0 (a : Nat) (j : Int) : Option Nat := match j with
  | .ofNat k => (zWL.getD a []).getD k none
  | .negSucc _ => none
/-- the references are as the constructors set them (the rows of the two shelves apart) -/
def zWir (N : Nat) (R : zRef) : Prop := ∀ a j r, a < N → zW0 a j = some r → R a j = some r

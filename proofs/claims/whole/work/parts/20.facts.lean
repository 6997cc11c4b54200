/-! the methods, and what the tables say of the links in their code -/
abbrev M_J6_bitCount_0f7a4 : m_M := (yJ6_bitCount_0f7a4, cJ6_bitCount_0f7a4, 1, (some .int), [])
abbrev M_J7_fill_53178 : m_M := (yJ7_fill_53178, cJ7_fill_53178, 4, none, [])
abbrev M_L_bind : m_M := (yL_bind, cL_bind, 5, (some .int), [(0, 10, 13, 13), (0, 10, 17, 17)])
abbrev M_L_call : m_M := (yL_call, cL_call, 6, (some .int), [(0, 12, 15, 13)])
abbrev M_L_clashes : m_M := (yL_clashes, cL_clashes, 4, (some .int), [(0, 16, 19, 13)])
abbrev M_L_ill : m_M := (yL_ill, cL_ill, 6, (some .int), [(0, 12, 15, 13)])
abbrev M_L_label : m_M := (yL_label, cL_label, 4, (some .int), [(0, 9, 12, 13)])
abbrev M_L_light : m_M := (yL_light, cL_light, 6, (some .int), [(0, 9, 12, 13), (0, 9, 16, 15)])
abbrev M_L_lock : m_M := (yL_lock, cL_lock, 3, (some .int), [(0, 8, 11, 17)])
abbrev M_L_look : m_M := (yL_look, cL_look, 7, (some .int), [(0, 14, 17, 13), (0, 14, 21, 15)])
abbrev M_L_lose : m_M := (yL_lose, cL_lose, 4, (some .int), [(0, 9, 12, 13), (0, 9, 15, 17)])
abbrev M_L_mend : m_M := (yL_mend, cL_mend, 4, (some .int), [(0, 9, 12, 13), (0, 9, 15, 17)])
abbrev M_L_move : m_M := (yL_move, cL_move, 6, (some .int), [(0, 12, 15, 13), (0, 12, 19, 15)])
abbrev M_L_needs : m_M := (yL_needs, cL_needs, 5, (some .int), [(0, 10, 13, 13), (0, 10, 17, 15)])
abbrev M_L_next : m_M := (yL_next, cL_next, 3, (some .int), [(0, 8, 11, 17)])
abbrev M_L_ofScene : m_M := (yL_ofScene, cL_ofScene, 5, (some .int), [(0, 10, 13, 13), (0, 10, 17, 15)])
abbrev M_L_omit : m_M := (yL_omit, cL_omit, 4, (some .int), [(0, 9, 12, 13), (0, 9, 15, 17)])
abbrev M_L_pay : m_M := (yL_pay, cL_pay, 5, (some .int), [(0, 10, 13, 13)])
abbrev M_L_permit : m_M := (yL_permit, cL_permit, 6, (some .int), [(0, 12, 15, 13)])
abbrev M_L_person : m_M := (yL_person, cL_person, 7, (some .int), [(0, 14, 17, 15), (0, 14, 21, 17)])
abbrev M_L_place : m_M := (yL_place, cL_place, 4, (some .int), [(0, 9, 12, 15), (0, 9, 15, 17)])
abbrev M_L_put : m_M := (yL_put, cL_put, 6, (some .int), [(0, 12, 15, 13), (0, 12, 19, 17)])
abbrev M_L_scene : m_M := (yL_scene, cL_scene, 8, (some .int), [(0, 16, 19, 13), (0, 16, 23, 15), (0, 16, 27, 17)])
abbrev M_L_shoot : m_M := (yL_shoot, cL_shoot, 5, (some .int), [(0, 10, 13, 13), (0, 10, 17, 15), (0, 10, 21, 17)])
abbrev M_L_strip : m_M := (yL_strip, cL_strip, 5, (some .int), [(0, 10, 13, 13)])
abbrev M_L_take : m_M := (yL_take, cL_take, 4, (some .int), [(0, 9, 12, 13), (0, 9, 15, 17)])
abbrev M_X0_clockOf : m_M := (yX0_clockOf, cX0_clockOf, 2, (some (.object "Stripboard$Clock")), [])
abbrev M_X0_endDay : m_M := (yX0_endDay, cX0_endDay, 4, none, [])
abbrev M_X0_faultless : m_M := (yX0_faultless, cX0_faultless, 5, (some .int), [])
abbrev M_X0_faultsAt : m_M := (yX0_faultsAt, cX0_faultsAt, 5, (some .int), [])
abbrev M_X0_faultsOf : m_M := (yX0_faultsOf, cX0_faultsOf, 3, (some .int), [])
abbrev M_X0_init : m_M := (yX0_init, cX0_init, 5, none, [])
abbrev M_X0_isDark : m_M := (yX0_isDark, cX0_isDark, 3, (some .boolean), [])
abbrev M_X0_isDoneBefore : m_M := (yX0_isDoneBefore, cX0_isDoneBefore, 2, (some .boolean), [])
abbrev M_X0_isTooEarly : m_M := (yX0_isTooEarly, cX0_isTooEarly, 6, (some .boolean), [])
abbrev M_X0_putOn : m_M := (yX0_putOn, cX0_putOn, 4, none, [])
abbrev M_X0_takeOff : m_M := (yX0_takeOff, cX0_takeOff, 3, none, [])
abbrev M_X0_tellAllowed : m_M := (yX0_tellAllowed, cX0_tellAllowed, 6, (some .int), [])
abbrev M_X0_tellIll : m_M := (yX0_tellIll, cX0_tellIll, 6, (some .int), [])
abbrev M_X0_timeOf : m_M := (yX0_timeOf, cX0_timeOf, 5, (some .int), [])
abbrev M_X10_bind : m_M := (yX10_bind, cX10_bind, 4, (some .int), [])
abbrev M_X10_call : m_M := (yX10_call, cX10_call, 5, (some .int), [])
abbrev M_X10_checkDay : m_M := (yX10_checkDay, cX10_checkDay, 1, none, [])
abbrev M_X10_checkIndex : m_M := (yX10_checkIndex, cX10_checkIndex, 2, none, [])
abbrev M_X10_checkPerson : m_M := (yX10_checkPerson, cX10_checkPerson, 2, none, [])
abbrev M_X10_checkPlace : m_M := (yX10_checkPlace, cX10_checkPlace, 2, none, [])
abbrev M_X10_checkRange : m_M := (yX10_checkRange, cX10_checkRange, 3, none, [])
abbrev M_X10_checkScene : m_M := (yX10_checkScene, cX10_checkScene, 2, none, [])
abbrev M_X10_clashes : m_M := (yX10_clashes, cX10_clashes, 2, (some .boolean), [])
abbrev M_X10_cost : m_M := (yX10_cost, cX10_cost, 1, (some .int), [])
abbrev M_X10_fill : m_M := (yX10_fill, cX10_fill, 5, (some .int), [])
abbrev M_X10_hasBit : m_M := (yX10_hasBit, cX10_hasBit, 2, (some .boolean), [])
abbrev M_X10_ill : m_M := (yX10_ill, cX10_ill, 4, (some .int), [])
abbrev M_X10_init : m_M := (yX10_init, cX10_init, 1, none, [])
abbrev M_X10_label : m_M := (yX10_label, cX10_label, 2, (some .int), [])
abbrev M_X10_light : m_M := (yX10_light, cX10_light, 6, none, [])
abbrev M_X10_lock : m_M := (yX10_lock, cX10_lock, 1, (some .int), [])
abbrev M_X10_look : m_M := (yX10_look, cX10_look, 7, (some .int), [])
abbrev M_X10_lose : m_M := (yX10_lose, cX10_lose, 3, (some .int), [])
abbrev M_X10_mend : m_M := (yX10_mend, cX10_mend, 5, (some .int), [])
abbrev M_X10_move : m_M := (yX10_move, cX10_move, 4, (some .int), [])
abbrev M_X10_needs : m_M := (yX10_needs, cX10_needs, 3, (some .int), [])
abbrev M_X10_next : m_M := (yX10_next, cX10_next, 1, (some .int), [])
abbrev M_X10_ofScene : m_M := (yX10_ofScene, cX10_ofScene, 4, (some .int), [])
abbrev M_X10_omit : m_M := (yX10_omit, cX10_omit, 3, (some .int), [])
abbrev M_X10_pay : m_M := (yX10_pay, cX10_pay, 3, (some .int), [])
abbrev M_X10_permit : m_M := (yX10_permit, cX10_permit, 4, (some .int), [])
abbrev M_X10_person : m_M := (yX10_person, cX10_person, 5, (some .int), [])
abbrev M_X10_place : m_M := (yX10_place, cX10_place, 2, (some .int), [])
abbrev M_X10_put : m_M := (yX10_put, cX10_put, 5, (some .int), [])
abbrev M_X10_scene : m_M := (yX10_scene, cX10_scene, 6, (some .int), [])
abbrev M_X10_shoot : m_M := (yX10_shoot, cX10_shoot, 4, (some .int), [])
abbrev M_X10_strip : m_M := (yX10_strip, cX10_strip, 4, (some .int), [])
abbrev M_X10_take : m_M := (yX10_take, cX10_take, 4, (some .int), [])
abbrev M_X10_withBit : m_M := (yX10_withBit, cX10_withBit, 3, (some .int), [])
abbrev M_X11_besides : m_M := (yX11_besides, cX11_besides, 8, (some .int), [])
abbrev M_X11_bind : m_M := (yX11_bind, cX11_bind, 4, (some .int), [])
abbrev M_X11_call : m_M := (yX11_call, cX11_call, 4, (some .int), [])
abbrev M_X11_callOf : m_M := (yX11_callOf, cX11_callOf, 8, (some .int), [])
abbrev M_X11_canTry : m_M := (yX11_canTry, cX11_canTry, 4, (some .boolean), [])
abbrev M_X11_clashes : m_M := (yX11_clashes, cX11_clashes, 2, (some .boolean), [])
abbrev M_X11_clashing : m_M := (yX11_clashing, cX11_clashing, 6, (some .int), [])
abbrev M_X11_clock : m_M := (yX11_clock, cX11_clock, 8, none, [])
abbrev M_X11_cost : m_M := (yX11_cost, cX11_cost, 5, (some .int), [])
abbrev M_X11_days : m_M := (yX11_days, cX11_days, 4, (some .int), [])
abbrev M_X11_eighth : m_M := (yX11_eighth, cX11_eighth, 1, (some .int), [])
abbrev M_X11_faultless : m_M := (yX11_faultless, cX11_faultless, 5, (some .int), [])
abbrev M_X11_faultsOf : m_M := (yX11_faultsOf, cX11_faultsOf, 7, (some .int), [])
abbrev M_X11_fill : m_M := (yX11_fill, cX11_fill, 5, (some .int), [])
abbrev M_X11_find : m_M := (yX11_find, cX11_find, 5, (some .boolean), [])
abbrev M_X11_goesWell : m_M := (yX11_goesWell, cX11_goesWell, 2, (some .boolean), [])
abbrev M_X11_has : m_M := (yX11_has, cX11_has, 2, (some .boolean), [])
abbrev M_X11_hours : m_M := (yX11_hours, cX11_hours, 1, (some .int), [])
abbrev M_X11_ill : m_M := (yX11_ill, cX11_ill, 4, (some .int), [])
abbrev M_X11_in : m_M := (yX11_in, cX11_in, 3, (some .boolean), [])
abbrev M_X11_init : m_M := (yX11_init, cX11_init, 2, none, [])
abbrev M_X11_isBehind : m_M := (yX11_isBehind, cX11_isBehind, 3, (some .boolean), [])
abbrev M_X11_isBound : m_M := (yX11_isBound, cX11_isBound, 6, (some .boolean), [])
abbrev M_X11_isDay : m_M := (yX11_isDay, cX11_isDay, 1, (some .boolean), [])
abbrev M_X11_isPerson : m_M := (yX11_isPerson, cX11_isPerson, 2, (some .boolean), [])
abbrev M_X11_isPlace : m_M := (yX11_isPlace, cX11_isPlace, 2, (some .boolean), [])
abbrev M_X11_isScene : m_M := (yX11_isScene, cX11_isScene, 2, (some .boolean), [])
abbrev M_X11_label : m_M := (yX11_label, cX11_label, 2, (some .int), [])
abbrev M_X11_letter : m_M := (yX11_letter, cX11_letter, 5, none, [])
abbrev M_X11_light : m_M := (yX11_light, cX11_light, 7, none, [])
abbrev M_X11_lock : m_M := (yX11_lock, cX11_lock, 2, (some .int), [])
abbrev M_X11_look : m_M := (yX11_look, cX11_look, 6, (some .int), [])
abbrev M_X11_lose : m_M := (yX11_lose, cX11_lose, 3, (some .int), [])
abbrev M_X11_mend : m_M := (yX11_mend, cX11_mend, 7, (some .int), [])
abbrev M_X11_move : m_M := (yX11_move, cX11_move, 6, (some .int), [])
abbrev M_X11_needs : m_M := (yX11_needs, cX11_needs, 4, (some .int), [])
abbrev M_X11_next : m_M := (yX11_next, cX11_next, 3, (some .int), [])
abbrev M_X11_ofScene : m_M := (yX11_ofScene, cX11_ofScene, 5, (some .int), [])
abbrev M_X11_off : m_M := (yX11_off, cX11_off, 4, none, [])
abbrev M_X11_omit : m_M := (yX11_omit, cX11_omit, 5, (some .int), [])
abbrev M_X11_on : m_M := (yX11_on, cX11_on, 5, none, [])
abbrev M_X11_owed : m_M := (yX11_owed, cX11_owed, 3, (some .int), [])
abbrev M_X11_pay : m_M := (yX11_pay, cX11_pay, 3, (some .int), [])
abbrev M_X11_payOf : m_M := (yX11_payOf, cX11_payOf, 5, (some .int), [])
abbrev M_X11_permit : m_M := (yX11_permit, cX11_permit, 4, (some .int), [])
abbrev M_X11_person : m_M := (yX11_person, cX11_person, 6, (some .int), [])
abbrev M_X11_place : m_M := (yX11_place, cX11_place, 2, (some .int), [])
abbrev M_X11_placeIn : m_M := (yX11_placeIn, cX11_placeIn, 3, (some .int), [])
abbrev M_X11_placeOn : m_M := (yX11_placeOn, cX11_placeOn, 4, (some .int), [])
abbrev M_X11_put : m_M := (yX11_put, cX11_put, 6, (some .int), [])
abbrev M_X11_run : m_M := (yX11_run, cX11_run, 4, (some .int), [])
abbrev M_X11_scene : m_M := (yX11_scene, cX11_scene, 10, (some .int), [])
abbrev M_X11_shoot : m_M := (yX11_shoot, cX11_shoot, 5, (some .int), [])
abbrev M_X11_size : m_M := (yX11_size, cX11_size, 3, (some .int), [])
abbrev M_X11_stateOf : m_M := (yX11_stateOf, cX11_stateOf, 2, (some .int), [])
abbrev M_X11_strip : m_M := (yX11_strip, cX11_strip, 3, (some .int), [])
abbrev M_X11_take : m_M := (yX11_take, cX11_take, 4, (some .int), [])
abbrev M_X11_thrown : m_M := (yX11_thrown, cX11_thrown, 1, (some .int), [])
abbrev M_X11_weeks : m_M := (yX11_weeks, cX11_weeks, 3, (some .int), [])
abbrev M_X11_works : m_M := (yX11_works, cX11_works, 5, (some .boolean), [])
abbrev M_X1_hasWorkFor : m_M := (yX1_hasWorkFor, cX1_hasWorkFor, 2, (some .boolean), [])
abbrev M_X1_init : m_M := (yX1_init, cX1_init, 5, none, [])
abbrev M_X1_read : m_M := (yX1_read, cX1_read, 2, none, [])
abbrev M_X1_readChildren : m_M := (yX1_readChildren, cX1_readChildren, 3, none, [])
abbrev M_X1_readPeople : m_M := (yX1_readPeople, cX1_readPeople, 5, none, [])
abbrev M_X1_readRow : m_M := (yX1_readRow, cX1_readRow, 9, none, [])
abbrev M_X2_add : m_M := (yX2_add, cX2_add, 5, (some .int), [])
abbrev M_X2_init : m_M := (yX2_init, cX2_init, 1, none, [])
abbrev M_X3_init : m_M := (yX3_init, cX3_init, 1, none, [])
abbrev M_X3_insert : m_M := (yX3_insert, cX3_insert, 4, none, [])
abbrev M_X3_isFull : m_M := (yX3_isFull, cX3_isFull, 1, (some .boolean), [])
abbrev M_X3_remove : m_M := (yX3_remove, cX3_remove, 4, none, [])
abbrev M_X3_spotOf : m_M := (yX3_spotOf, cX3_spotOf, 3, (some .int), [])
abbrev M_X4_findDay : m_M := (yX4_findDay, cX4_findDay, 4, (some .boolean), [])
abbrev M_X4_fits : m_M := (yX4_fits, cX4_fits, 6, (some .boolean), [])
abbrev M_X4_init : m_M := (yX4_init, cX4_init, 3, none, [])
abbrev M_X4_takeIllOnes : m_M := (yX4_takeIllOnes, cX4_takeIllOnes, 6, (some .int), [])
abbrev M_X5_init : m_M := (yX5_init, cX5_init, 1, none, [])
abbrev M_X5_learn : m_M := (yX5_learn, cX5_learn, 3, (some .int), [])
abbrev M_X5_ofEighth : m_M := (yX5_ofEighth, cX5_ofEighth, 1, (some .int), [])
abbrev M_X6_begunHours : m_M := (yX6_begunHours, cX6_begunHours, 1, (some .int), [])
abbrev M_X6_costOfAll : m_M := (yX6_costOfAll, cX6_costOfAll, 3, (some .int), [])
abbrev M_X6_costOfPlaces : m_M := (yX6_costOfPlaces, cX6_costOfPlaces, 6, (some .int), [])
abbrev M_X6_dueTimes : m_M := (yX6_dueTimes, cX6_dueTimes, 3, (some .int), [])
abbrev M_X6_init : m_M := (yX6_init, cX6_init, 5, none, [])
abbrev M_X6_payOf : m_M := (yX6_payOf, cX6_payOf, 12, (some .int), [])
abbrev M_X7_add : m_M := (yX7_add, cX7_add, 2, (some .int), [])
abbrev M_X7_init : m_M := (yX7_init, cX7_init, 1, none, [])
abbrev M_X7_moveBetween : m_M := (yX7_moveBetween, cX7_moveBetween, 3, (some .int), [])
abbrev M_X7_tellMove : m_M := (yX7_tellMove, cX7_tellMove, 5, (some .int), [])
abbrev M_X8_init : m_M := (yX8_init, cX8_init, 1, none, [])
abbrev M_X8_isLoose : m_M := (yX8_isLoose, cX8_isLoose, 1, (some .boolean), [])
abbrev M_X8_isSettled : m_M := (yX8_isSettled, cX8_isSettled, 1, (some .boolean), [])
abbrev M_X8_keepTake : m_M := (yX8_keepTake, cX8_keepTake, 2, none, [])
abbrev M_X8_lasts : m_M := (yX8_lasts, cX8_lasts, 2, (some .int), [])
abbrev M_X8_status : m_M := (yX8_status, cX8_status, 1, (some .int), [])
abbrev M_X8_wantsLight : m_M := (yX8_wantsLight, cX8_wantsLight, 1, (some .boolean), [])
abbrev M_X9_add : m_M := (yX9_add, cX9_add, 9, (some .int), [])
abbrev M_X9_countOf : m_M := (yX9_countOf, cX9_countOf, 4, (some .int), [])
abbrev M_X9_findClashes : m_M := (yX9_findClashes, cX9_findClashes, 4, (some .int), [])
abbrev M_X9_firstToTry : m_M := (yX9_firstToTry, cX9_firstToTry, 4, (some .int), [])
abbrev M_X9_hasRoomBehind : m_M := (yX9_hasRoomBehind, cX9_hasRoomBehind, 2, (some .boolean), [])
abbrev M_X9_init : m_M := (yX9_init, cX9_init, 2, none, [])
abbrev M_X9_isFree : m_M := (yX9_isFree, cX9_isFree, 3, (some .boolean), [])
abbrev M_X9_keepLabels : m_M := (yX9_keepLabels, cX9_keepLabels, 2, none, [])
abbrev M_X9_labelOf : m_M := (yX9_labelOf, cX9_labelOf, 2, (some .int), [])
abbrev M_X9_leadsTo : m_M := (yX9_leadsTo, cX9_leadsTo, 6, (some .boolean), [])
abbrev M_X9_leaveLooks : m_M := (yX9_leaveLooks, cX9_leaveLooks, 3, none, [])
abbrev M_X9_lowestLetter : m_M := (yX9_lowestLetter, cX9_lowestLetter, 4, (some .int), [])
abbrev M_X9_numberAt : m_M := (yX9_numberAt, cX9_numberAt, 4, (some .int), [])
abbrev M_X9_spotBehind : m_M := (yX9_spotBehind, cX9_spotBehind, 2, (some .int), [])
abbrev M_X9_spotOf : m_M := (yX9_spotOf, cX9_spotOf, 3, (some .int), [])
abbrev M_X9_wantsOther : m_M := (yX9_wantsOther, cX9_wantsOther, 3, (some .boolean), [])
theorem kd_0_0 : m_kd 0 0 = 2 := by decide +kernel
theorem kd_0_1 : m_kd 0 1 = 2 := by decide +kernel
theorem kd_0_2 : m_kd 0 2 = 2 := by decide +kernel
theorem kd_0_3 : m_kd 0 3 = 2 := by decide +kernel
theorem kd_0_4 : m_kd 0 4 = 0 := by decide +kernel
theorem kd_1_0 : m_kd 1 0 = 2 := by decide +kernel
theorem kd_1_1 : m_kd 1 1 = 2 := by decide +kernel
theorem kd_1_2 : m_kd 1 2 = 2 := by decide +kernel
theorem kd_1_3 : m_kd 1 3 = 2 := by decide +kernel
theorem kd_1_4 : m_kd 1 4 = 2 := by decide +kernel
theorem kd_1_5 : m_kd 1 5 = 2 := by decide +kernel
theorem kd_1_6 : m_kd 1 6 = 2 := by decide +kernel
theorem kd_1_7 : m_kd 1 7 = 2 := by decide +kernel
theorem kd_1_8 : m_kd 1 8 = 0 := by decide +kernel
theorem kd_1_9 : m_kd 1 9 = 0 := by decide +kernel
theorem kd_1_10 : m_kd 1 10 = 1 := by decide +kernel
theorem kd_2_0 : m_kd 2 0 = 2 := by decide +kernel
theorem kd_2_1 : m_kd 2 1 = 2 := by decide +kernel
theorem kd_2_2 : m_kd 2 2 = 2 := by decide +kernel
theorem kd_2_3 : m_kd 2 3 = 0 := by decide +kernel
theorem kd_2_4 : m_kd 2 4 = 0 := by decide +kernel
theorem kd_3_0 : m_kd 3 0 = 0 := by decide +kernel
theorem kd_3_1 : m_kd 3 1 = 0 := by decide +kernel
theorem kd_3_2 : m_kd 3 2 = 0 := by decide +kernel
theorem kd_3_3 : m_kd 3 3 = 0 := by decide +kernel
theorem kd_3_4 : m_kd 3 4 = 0 := by decide +kernel
theorem kd_3_5 : m_kd 3 5 = 2 := by decide +kernel
theorem kd_3_6 : m_kd 3 6 = 0 := by decide +kernel
theorem kd_4_0 : m_kd 4 0 = 2 := by decide +kernel
theorem kd_4_1 : m_kd 4 1 = 2 := by decide +kernel
theorem kd_4_2 : m_kd 4 2 = 2 := by decide +kernel
theorem kd_5_0 : m_kd 5 0 = 0 := by decide +kernel
theorem kd_5_1 : m_kd 5 1 = 0 := by decide +kernel
theorem kd_6_0 : m_kd 6 0 = 2 := by decide +kernel
theorem kd_6_1 : m_kd 6 1 = 2 := by decide +kernel
theorem kd_6_2 : m_kd 6 2 = 2 := by decide +kernel
theorem kd_6_3 : m_kd 6 3 = 2 := by decide +kernel
theorem kd_7_0 : m_kd 7 0 = 2 := by decide +kernel
theorem kd_7_1 : m_kd 7 1 = 2 := by decide +kernel
theorem kd_7_2 : m_kd 7 2 = 0 := by decide +kernel
theorem kd_8_0 : m_kd 8 0 = 0 := by decide +kernel
theorem kd_8_1 : m_kd 8 1 = 1 := by decide +kernel
theorem kd_8_2 : m_kd 8 2 = 1 := by decide +kernel
theorem kd_8_3 : m_kd 8 3 = 0 := by decide +kernel
theorem kd_8_4 : m_kd 8 4 = 0 := by decide +kernel
theorem kd_8_5 : m_kd 8 5 = 0 := by decide +kernel
theorem kd_8_6 : m_kd 8 6 = 0 := by decide +kernel
theorem kd_8_7 : m_kd 8 7 = 0 := by decide +kernel
theorem kd_8_8 : m_kd 8 8 = 2 := by decide +kernel
theorem kd_8_9 : m_kd 8 9 = 2 := by decide +kernel
theorem kd_8_10 : m_kd 8 10 = 1 := by decide +kernel
theorem kd_8_11 : m_kd 8 11 = 1 := by decide +kernel
theorem kd_8_12 : m_kd 8 12 = 1 := by decide +kernel
theorem kd_8_13 : m_kd 8 13 = 1 := by decide +kernel
theorem kd_8_14 : m_kd 8 14 = 0 := by decide +kernel
theorem kd_8_15 : m_kd 8 15 = 0 := by decide +kernel
theorem kd_9_0 : m_kd 9 0 = 2 := by decide +kernel
theorem kd_9_1 : m_kd 9 1 = 2 := by decide +kernel
theorem kd_9_2 : m_kd 9 2 = 2 := by decide +kernel
theorem kd_9_3 : m_kd 9 3 = 0 := by decide +kernel
theorem kd_9_4 : m_kd 9 4 = 1 := by decide +kernel
theorem kd_10_0 : m_kd 10 0 = 2 := by decide +kernel
theorem kd_10_1 : m_kd 10 1 = 2 := by decide +kernel
theorem kd_10_2 : m_kd 10 2 = 2 := by decide +kernel
theorem kd_10_3 : m_kd 10 3 = 2 := by decide +kernel
theorem kd_10_4 : m_kd 10 4 = 2 := by decide +kernel
theorem kd_10_5 : m_kd 10 5 = 2 := by decide +kernel
theorem kd_11_0 : m_kd 11 0 = 0 := by decide +kernel
theorem kd_11_1 : m_kd 11 1 = 0 := by decide +kernel
theorem kd_11_2 : m_kd 11 2 = 1 := by decide +kernel
theorem kd_11_3 : m_kd 11 3 = 0 := by decide +kernel
theorem kd_11_4 : m_kd 11 4 = 2 := by decide +kernel
theorem kd_11_5 : m_kd 11 5 = 2 := by decide +kernel
theorem kd_11_6 : m_kd 11 6 = 2 := by decide +kernel
theorem kd_11_7 : m_kd 11 7 = 2 := by decide +kernel
theorem kd_11_8 : m_kd 11 8 = 2 := by decide +kernel
theorem kd_11_9 : m_kd 11 9 = 2 := by decide +kernel
theorem kd_11_10 : m_kd 11 10 = 2 := by decide +kernel
theorem kd_11_11 : m_kd 11 11 = 2 := by decide +kernel
theorem kd_11_12 : m_kd 11 12 = 2 := by decide +kernel
theorem kd_11_13 : m_kd 11 13 = 2 := by decide +kernel
theorem kd_11_14 : m_kd 11 14 = 2 := by decide +kernel
theorem kd_11_15 : m_kd 11 15 = 2 := by decide +kernel
theorem kd_11_16 : m_kd 11 16 = 2 := by decide +kernel
theorem kd_11_17 : m_kd 11 17 = 2 := by decide +kernel
theorem kd_11_18 : m_kd 11 18 = 2 := by decide +kernel
theorem kd_11_19 : m_kd 11 19 = 2 := by decide +kernel
theorem kd_11_20 : m_kd 11 20 = 0 := by decide +kernel
theorem kd_11_21 : m_kd 11 21 = 0 := by decide +kernel
theorem kd_11_22 : m_kd 11 22 = 0 := by decide +kernel
theorem kd_11_23 : m_kd 11 23 = 2 := by decide +kernel
theorem kd_11_24 : m_kd 11 24 = 2 := by decide +kernel
theorem kd_11_25 : m_kd 11 25 = 2 := by decide +kernel
theorem kd_11_26 : m_kd 11 26 = 2 := by decide +kernel
theorem kd_11_27 : m_kd 11 27 = 2 := by decide +kernel
theorem kd_11_28 : m_kd 11 28 = 0 := by decide +kernel
theorem kd_11_29 : m_kd 11 29 = 2 := by decide +kernel
theorem kd_11_30 : m_kd 11 30 = 2 := by decide +kernel
theorem kd_11_31 : m_kd 11 31 = 2 := by decide +kernel
theorem kd_11_32 : m_kd 11 32 = 2 := by decide +kernel
theorem kd_11_33 : m_kd 11 33 = 2 := by decide +kernel
theorem kd_11_34 : m_kd 11 34 = 2 := by decide +kernel
theorem kd_11_35 : m_kd 11 35 = 2 := by decide +kernel
theorem kd_11_36 : m_kd 11 36 = 2 := by decide +kernel
theorem kd_11_37 : m_kd 11 37 = 2 := by decide +kernel
theorem kd_11_38 : m_kd 11 38 = 2 := by decide +kernel
theorem kd_11_39 : m_kd 11 39 = 2 := by decide +kernel
theorem kd_11_40 : m_kd 11 40 = 2 := by decide +kernel
theorem oi1 : Cond.instanceMethod Lib.objectInit ∈ lw_tbl := by decide +kernel
theorem oi2 : Cond.code Lib.objectInit ⟨#[0xb1]⟩ 1 none ∈ lw_tbl := by decide +kernel
theorem ac1 : Cond.arrayClass .int ∈ lw_tbl := by decide +kernel
theorem ac2 : Cond.arrayClass .boolean ∈ lw_tbl := by decide +kernel
theorem ac3 : Cond.arrayClass .long ∈ lw_tbl := by decide +kernel
theorem fX0_12 : m_FL RX0 12 0 1 := ⟨RX0, TX0, 5, rfl, by decide, List.mem_of_getElem? (i := 352) (by decide +kernel)⟩
theorem pX0_0_1 : m_FP RX0 0 1 true := ⟨RX0, TX0, 5, rfl, by decide +kernel, fun _ => rfl⟩
theorem fX0_20 : m_FL RX0 20 0 2 := ⟨RX0, TX0, 5, rfl, by decide, List.mem_of_getElem? (i := 354) (by decide +kernel)⟩
theorem pX0_0_2 : m_FP RX0 0 2 true := ⟨RX0, TX0, 5, rfl, by decide +kernel, fun _ => rfl⟩
theorem fX0_24 : m_FL RX0 24 0 0 := ⟨RX0, TX0, 5, rfl, by decide, List.mem_of_getElem? (i := 351) (by decide +kernel)⟩
theorem pX0_0_0 : m_FP RX0 0 0 true := ⟨RX0, TX0, 5, rfl, by decide +kernel, fun _ => rfl⟩
theorem fX0_33 : m_FL RX0 33 0 3 := ⟨RX0, TX0, 5, rfl, by decide, List.mem_of_getElem? (i := 358) (by decide +kernel)⟩
theorem pX0_0_3 : m_FP RX0 0 3 true := ⟨RX0, TX0, 5, rfl, by decide +kernel, fun _ => rfl⟩
theorem fX0_38 : m_FL RX0 38 3 3 := ⟨RX3, TX3, 7, rfl, by decide, List.mem_of_getElem? (i := 321) (by decide +kernel)⟩
theorem pX0_3_3 : m_FP RX0 3 3 false := ⟨RX3, TX3, 7, rfl, by decide +kernel, fun z => by cases z⟩
theorem fX0_50 : m_FL RX0 50 3 4 := ⟨RX3, TX3, 7, rfl, by decide, List.mem_of_getElem? (i := 323) (by decide +kernel)⟩
theorem pX0_3_4 : m_FP RX0 3 4 false := ⟨RX3, TX3, 7, rfl, by decide +kernel, fun z => by cases z⟩
theorem fX0_57 : m_FL RX0 57 9 0 := ⟨RX9, TX9, 5, rfl, by decide, List.mem_of_getElem? (i := 169) (by decide +kernel)⟩
theorem fX0_63 : m_FL RX0 63 8 15 := ⟨RX8, TX8, 16, rfl, by decide, List.mem_of_getElem? (i := 130) (by decide +kernel)⟩
theorem pX0_8_15 : m_FP RX0 8 15 false := ⟨RX8, TX8, 16, rfl, by decide +kernel, fun z => by cases z⟩
theorem fX0_72 : m_FL RX0 72 0 4 := ⟨RX0, TX0, 5, rfl, by decide, List.mem_of_getElem? (i := 360) (by decide +kernel)⟩
theorem fX0_75 : m_FL RX0 75 3 6 := ⟨RX3, TX3, 7, rfl, by decide, List.mem_of_getElem? (i := 334) (by decide +kernel)⟩
theorem fX0_78 : m_FL RX0 78 3 5 := ⟨RX3, TX3, 7, rfl, by decide, List.mem_of_getElem? (i := 328) (by decide +kernel)⟩
theorem fX0_82 : m_FL RX0 82 8 12 := ⟨RX8, TX8, 16, rfl, by decide, List.mem_of_getElem? (i := 124) (by decide +kernel)⟩
theorem fX0_86 : m_FL RX0 86 8 13 := ⟨RX8, TX8, 16, rfl, by decide, List.mem_of_getElem? (i := 126) (by decide +kernel)⟩
theorem pX0_8_13 : m_FP RX0 8 13 false := ⟨RX8, TX8, 16, rfl, by decide +kernel, fun z => by cases z⟩
theorem pX0_0_4 : m_FP RX0 0 4 false := ⟨RX0, TX0, 5, rfl, by decide +kernel, fun z => by cases z⟩
theorem fX0_100 : m_FL RX0 100 1 5 := ⟨RX1, TX1, 11, rfl, by decide, List.mem_of_getElem? (i := 272) (by decide +kernel)⟩
theorem fX0_103 : m_FL RX0 103 1 4 := ⟨RX1, TX1, 11, rfl, by decide, List.mem_of_getElem? (i := 270) (by decide +kernel)⟩
theorem fX0_110 : m_FL RX0 110 8 0 := ⟨RX8, TX8, 16, rfl, by decide, List.mem_of_getElem? (i := 92) (by decide +kernel)⟩
theorem fX0_121 : m_FL RX0 121 8 4 := ⟨RX8, TX8, 16, rfl, by decide, List.mem_of_getElem? (i := 103) (by decide +kernel)⟩
theorem fX0_124 : m_FL RX0 124 1 9 := ⟨RX1, TX1, 11, rfl, by decide, List.mem_of_getElem? (i := 281) (by decide +kernel)⟩
theorem fX0_131 : m_FL RX0 131 1 10 := ⟨RX1, TX1, 11, rfl, by decide, List.mem_of_getElem? (i := 283) (by decide +kernel)⟩
theorem fX0_134 : m_FL RX0 134 3 1 := ⟨RX3, TX3, 7, rfl, by decide, List.mem_of_getElem? (i := 316) (by decide +kernel)⟩
theorem fX0_137 : m_FL RX0 137 3 2 := ⟨RX3, TX3, 7, rfl, by decide, List.mem_of_getElem? (i := 319) (by decide +kernel)⟩
theorem fX0_140 : m_FL RX0 140 9 3 := ⟨RX9, TX9, 5, rfl, by decide, List.mem_of_getElem? (i := 176) (by decide +kernel)⟩
theorem fX0_143 : m_FL RX0 143 8 5 := ⟨RX8, TX8, 16, rfl, by decide, List.mem_of_getElem? (i := 105) (by decide +kernel)⟩
theorem fX0_150 : m_FL RX0 150 8 11 := ⟨RX8, TX8, 16, rfl, by decide, List.mem_of_getElem? (i := 120) (by decide +kernel)⟩
theorem fX1_9 : m_FL RX1 9 1 4 := ⟨RX1, TX1, 11, rfl, by decide, List.mem_of_getElem? (i := 269) (by decide +kernel)⟩
theorem pX1_1_4 : m_FP RX1 1 4 true := ⟨RX1, TX1, 11, rfl, by decide +kernel, fun _ => rfl⟩
theorem fX1_15 : m_FL RX1 15 1 5 := ⟨RX1, TX1, 11, rfl, by decide, List.mem_of_getElem? (i := 271) (by decide +kernel)⟩
theorem pX1_1_5 : m_FP RX1 1 5 true := ⟨RX1, TX1, 11, rfl, by decide +kernel, fun _ => rfl⟩
theorem fX1_18 : m_FL RX1 18 1 6 := ⟨RX1, TX1, 11, rfl, by decide, List.mem_of_getElem? (i := 273) (by decide +kernel)⟩
theorem pX1_1_6 : m_FP RX1 1 6 true := ⟨RX1, TX1, 11, rfl, by decide +kernel, fun _ => rfl⟩
theorem fX1_21 : m_FL RX1 21 1 7 := ⟨RX1, TX1, 11, rfl, by decide, List.mem_of_getElem? (i := 276) (by decide +kernel)⟩
theorem pX1_1_7 : m_FP RX1 1 7 true := ⟨RX1, TX1, 11, rfl, by decide +kernel, fun _ => rfl⟩
theorem fX1_24 : m_FL RX1 24 1 0 := ⟨RX1, TX1, 11, rfl, by decide, List.mem_of_getElem? (i := 265) (by decide +kernel)⟩
theorem pX1_1_0 : m_FP RX1 1 0 true := ⟨RX1, TX1, 11, rfl, by decide +kernel, fun _ => rfl⟩
theorem fX1_28 : m_FL RX1 28 1 1 := ⟨RX1, TX1, 11, rfl, by decide, List.mem_of_getElem? (i := 266) (by decide +kernel)⟩
theorem pX1_1_1 : m_FP RX1 1 1 true := ⟨RX1, TX1, 11, rfl, by decide +kernel, fun _ => rfl⟩
theorem fX1_32 : m_FL RX1 32 1 2 := ⟨RX1, TX1, 11, rfl, by decide, List.mem_of_getElem? (i := 267) (by decide +kernel)⟩
theorem pX1_1_2 : m_FP RX1 1 2 true := ⟨RX1, TX1, 11, rfl, by decide +kernel, fun _ => rfl⟩
theorem fX1_36 : m_FL RX1 36 1 3 := ⟨RX1, TX1, 11, rfl, by decide, List.mem_of_getElem? (i := 268) (by decide +kernel)⟩
theorem pX1_1_3 : m_FP RX1 1 3 true := ⟨RX1, TX1, 11, rfl, by decide +kernel, fun _ => rfl⟩
theorem fX1_50 : m_FL RX1 50 1 8 := ⟨RX1, TX1, 11, rfl, by decide, List.mem_of_getElem? (i := 279) (by decide +kernel)⟩
theorem fX1_64 : m_FL RX1 64 3 0 := ⟨RX3, TX3, 7, rfl, by decide, List.mem_of_getElem? (i := 313) (by decide +kernel)⟩
theorem fX1_69 : m_FL RX1 69 3 6 := ⟨RX3, TX3, 7, rfl, by decide, List.mem_of_getElem? (i := 332) (by decide +kernel)⟩
theorem fX1_72 : m_FL RX1 72 9 0 := ⟨RX9, TX9, 5, rfl, by decide, List.mem_of_getElem? (i := 170) (by decide +kernel)⟩
theorem fX1_78 : m_FL RX1 78 3 5 := ⟨RX3, TX3, 7, rfl, by decide, List.mem_of_getElem? (i := 326) (by decide +kernel)⟩
theorem fX1_87 : m_FL RX1 87 8 0 := ⟨RX8, TX8, 16, rfl, by decide, List.mem_of_getElem? (i := 90) (by decide +kernel)⟩
theorem fX1_96 : m_FL RX1 96 1 10 := ⟨RX1, TX1, 11, rfl, by decide, List.mem_of_getElem? (i := 282) (by decide +kernel)⟩
theorem pX1_1_10 : m_FP RX1 1 10 false := ⟨RX1, TX1, 11, rfl, by decide +kernel, fun z => by cases z⟩
theorem pX1_1_8 : m_FP RX1 1 8 false := ⟨RX1, TX1, 11, rfl, by decide +kernel, fun z => by cases z⟩
theorem fX1_100 : m_FL RX1 100 8 4 := ⟨RX8, TX8, 16, rfl, by decide, List.mem_of_getElem? (i := 101) (by decide +kernel)⟩
theorem fX1_103 : m_FL RX1 103 2 4 := ⟨RX2, TX2, 5, rfl, by decide, List.mem_of_getElem? (i := 206) (by decide +kernel)⟩
theorem fX1_106 : m_FL RX1 106 2 2 := ⟨RX2, TX2, 5, rfl, by decide, List.mem_of_getElem? (i := 201) (by decide +kernel)⟩
theorem fX1_109 : m_FL RX1 109 1 9 := ⟨RX1, TX1, 11, rfl, by decide, List.mem_of_getElem? (i := 280) (by decide +kernel)⟩
theorem pX1_1_9 : m_FP RX1 1 9 false := ⟨RX1, TX1, 11, rfl, by decide +kernel, fun z => by cases z⟩
theorem fX1_112 : m_FL RX1 112 2 3 := ⟨RX2, TX2, 5, rfl, by decide, List.mem_of_getElem? (i := 203) (by decide +kernel)⟩
theorem fX2_9 : m_FL RX2 9 2 0 := ⟨RX2, TX2, 5, rfl, by decide, List.mem_of_getElem? (i := 196) (by decide +kernel)⟩
theorem pX2_2_0 : m_FP RX2 2 0 true := ⟨RX2, TX2, 5, rfl, by decide +kernel, fun _ => rfl⟩
theorem fX2_15 : m_FL RX2 15 2 1 := ⟨RX2, TX2, 5, rfl, by decide, List.mem_of_getElem? (i := 198) (by decide +kernel)⟩
theorem pX2_2_1 : m_FP RX2 2 1 true := ⟨RX2, TX2, 5, rfl, by decide +kernel, fun _ => rfl⟩
theorem fX2_18 : m_FL RX2 18 2 2 := ⟨RX2, TX2, 5, rfl, by decide, List.mem_of_getElem? (i := 200) (by decide +kernel)⟩
theorem pX2_2_2 : m_FP RX2 2 2 true := ⟨RX2, TX2, 5, rfl, by decide +kernel, fun _ => rfl⟩
theorem fX2_21 : m_FL RX2 21 2 4 := ⟨RX2, TX2, 5, rfl, by decide, List.mem_of_getElem? (i := 204) (by decide +kernel)⟩
theorem fX2_25 : m_FL RX2 25 2 3 := ⟨RX2, TX2, 5, rfl, by decide, List.mem_of_getElem? (i := 202) (by decide +kernel)⟩
theorem pX2_2_3 : m_FP RX2 2 3 false := ⟨RX2, TX2, 5, rfl, by decide +kernel, fun z => by cases z⟩
theorem pX2_2_4 : m_FP RX2 2 4 false := ⟨RX2, TX2, 5, rfl, by decide +kernel, fun z => by cases z⟩
theorem fX3_9 : m_FL RX3 9 3 0 := ⟨RX3, TX3, 7, rfl, by decide, List.mem_of_getElem? (i := 312) (by decide +kernel)⟩
theorem pX3_3_0 : m_FP RX3 3 0 false := ⟨RX3, TX3, 7, rfl, by decide +kernel, fun z => by cases z⟩
theorem fX3_15 : m_FL RX3 15 3 1 := ⟨RX3, TX3, 7, rfl, by decide, List.mem_of_getElem? (i := 315) (by decide +kernel)⟩
theorem pX3_3_1 : m_FP RX3 3 1 false := ⟨RX3, TX3, 7, rfl, by decide +kernel, fun z => by cases z⟩
theorem fX3_18 : m_FL RX3 18 3 2 := ⟨RX3, TX3, 7, rfl, by decide, List.mem_of_getElem? (i := 318) (by decide +kernel)⟩
theorem pX3_3_2 : m_FP RX3 3 2 false := ⟨RX3, TX3, 7, rfl, by decide +kernel, fun z => by cases z⟩
theorem fX3_21 : m_FL RX3 21 3 5 := ⟨RX3, TX3, 7, rfl, by decide, List.mem_of_getElem? (i := 324) (by decide +kernel)⟩
theorem pX3_3_5 : m_FP RX3 3 5 true := ⟨RX3, TX3, 7, rfl, by decide +kernel, fun _ => rfl⟩
theorem fX3_25 : m_FL RX3 25 3 6 := ⟨RX3, TX3, 7, rfl, by decide, List.mem_of_getElem? (i := 330) (by decide +kernel)⟩
theorem pX3_3_6 : m_FP RX3 3 6 false := ⟨RX3, TX3, 7, rfl, by decide +kernel, fun z => by cases z⟩
theorem fX4_9 : m_FL RX4 9 4 2 := ⟨RX4, TX4, 3, rfl, by decide, List.mem_of_getElem? (i := 381) (by decide +kernel)⟩
theorem pX4_4_2 : m_FP RX4 4 2 true := ⟨RX4, TX4, 3, rfl, by decide +kernel, fun _ => rfl⟩
theorem fX4_15 : m_FL RX4 15 4 0 := ⟨RX4, TX4, 3, rfl, by decide, List.mem_of_getElem? (i := 379) (by decide +kernel)⟩
theorem pX4_4_0 : m_FP RX4 4 0 true := ⟨RX4, TX4, 3, rfl, by decide +kernel, fun _ => rfl⟩
theorem fX4_19 : m_FL RX4 19 4 1 := ⟨RX4, TX4, 3, rfl, by decide, List.mem_of_getElem? (i := 380) (by decide +kernel)⟩
theorem pX4_4_1 : m_FP RX4 4 1 true := ⟨RX4, TX4, 3, rfl, by decide +kernel, fun _ => rfl⟩
theorem fX4_23 : m_FL RX4 23 0 2 := ⟨RX0, TX0, 5, rfl, by decide, List.mem_of_getElem? (i := 355) (by decide +kernel)⟩
theorem fX4_29 : m_FL RX4 29 3 6 := ⟨RX3, TX3, 7, rfl, by decide, List.mem_of_getElem? (i := 331) (by decide +kernel)⟩
theorem fX4_35 : m_FL RX4 35 9 0 := ⟨RX9, TX9, 5, rfl, by decide, List.mem_of_getElem? (i := 167) (by decide +kernel)⟩
theorem fX4_41 : m_FL RX4 41 3 5 := ⟨RX3, TX3, 7, rfl, by decide, List.mem_of_getElem? (i := 325) (by decide +kernel)⟩
theorem fX4_44 : m_FL RX4 44 8 12 := ⟨RX8, TX8, 16, rfl, by decide, List.mem_of_getElem? (i := 122) (by decide +kernel)⟩
theorem fX4_50 : m_FL RX4 50 8 4 := ⟨RX8, TX8, 16, rfl, by decide, List.mem_of_getElem? (i := 100) (by decide +kernel)⟩
theorem fX4_53 : m_FL RX4 53 3 3 := ⟨RX3, TX3, 7, rfl, by decide, List.mem_of_getElem? (i := 322) (by decide +kernel)⟩
theorem fX4_60 : m_FL RX4 60 0 4 := ⟨RX0, TX0, 5, rfl, by decide, List.mem_of_getElem? (i := 359) (by decide +kernel)⟩
theorem fX5_7 : m_FL RX5 7 5 0 := ⟨RX5, TX5, 2, rfl, by decide, List.mem_of_getElem? (i := 250) (by decide +kernel)⟩
theorem pX5_5_0 : m_FP RX5 5 0 false := ⟨RX5, TX5, 2, rfl, by decide +kernel, fun z => by cases z⟩
theorem fX5_13 : m_FL RX5 13 5 1 := ⟨RX5, TX5, 2, rfl, by decide, List.mem_of_getElem? (i := 251) (by decide +kernel)⟩
theorem pX5_5_1 : m_FP RX5 5 1 false := ⟨RX5, TX5, 2, rfl, by decide +kernel, fun z => by cases z⟩
theorem fX6_9 : m_FL RX6 9 6 0 := ⟨RX6, TX6, 4, rfl, by decide, List.mem_of_getElem? (i := 396) (by decide +kernel)⟩
theorem pX6_6_0 : m_FP RX6 6 0 true := ⟨RX6, TX6, 4, rfl, by decide +kernel, fun _ => rfl⟩
theorem fX6_15 : m_FL RX6 15 6 1 := ⟨RX6, TX6, 4, rfl, by decide, List.mem_of_getElem? (i := 397) (by decide +kernel)⟩
theorem pX6_6_1 : m_FP RX6 6 1 true := ⟨RX6, TX6, 4, rfl, by decide +kernel, fun _ => rfl⟩
theorem fX6_19 : m_FL RX6 19 6 2 := ⟨RX6, TX6, 4, rfl, by decide, List.mem_of_getElem? (i := 398) (by decide +kernel)⟩
theorem pX6_6_2 : m_FP RX6 6 2 true := ⟨RX6, TX6, 4, rfl, by decide +kernel, fun _ => rfl⟩
theorem fX6_23 : m_FL RX6 23 6 3 := ⟨RX6, TX6, 4, rfl, by decide, List.mem_of_getElem? (i := 399) (by decide +kernel)⟩
theorem pX6_6_3 : m_FP RX6 6 3 true := ⟨RX6, TX6, 4, rfl, by decide +kernel, fun _ => rfl⟩
theorem fX6_27 : m_FL RX6 27 2 1 := ⟨RX2, TX2, 5, rfl, by decide, List.mem_of_getElem? (i := 199) (by decide +kernel)⟩
theorem fX6_45 : m_FL RX6 45 1 6 := ⟨RX1, TX1, 11, rfl, by decide, List.mem_of_getElem? (i := 274) (by decide +kernel)⟩
theorem fX6_48 : m_FL RX6 48 1 7 := ⟨RX1, TX1, 11, rfl, by decide, List.mem_of_getElem? (i := 277) (by decide +kernel)⟩
theorem fX6_51 : m_FL RX6 51 2 0 := ⟨RX2, TX2, 5, rfl, by decide, List.mem_of_getElem? (i := 197) (by decide +kernel)⟩
theorem fX6_62 : m_FL RX6 62 2 4 := ⟨RX2, TX2, 5, rfl, by decide, List.mem_of_getElem? (i := 205) (by decide +kernel)⟩
theorem fX6_70 : m_FL RX6 70 0 2 := ⟨RX0, TX0, 5, rfl, by decide, List.mem_of_getElem? (i := 356) (by decide +kernel)⟩
theorem fX6_78 : m_FL RX6 78 3 6 := ⟨RX3, TX3, 7, rfl, by decide, List.mem_of_getElem? (i := 333) (by decide +kernel)⟩
theorem fX6_81 : m_FL RX6 81 9 0 := ⟨RX9, TX9, 5, rfl, by decide, List.mem_of_getElem? (i := 171) (by decide +kernel)⟩
theorem fX6_87 : m_FL RX6 87 3 5 := ⟨RX3, TX3, 7, rfl, by decide, List.mem_of_getElem? (i := 327) (by decide +kernel)⟩
theorem fX6_90 : m_FL RX6 90 8 0 := ⟨RX8, TX8, 16, rfl, by decide, List.mem_of_getElem? (i := 91) (by decide +kernel)⟩
theorem fX6_99 : m_FL RX6 99 7 0 := ⟨RX7, TX7, 3, rfl, by decide, List.mem_of_getElem? (i := 227) (by decide +kernel)⟩
theorem fX7_9 : m_FL RX7 9 7 0 := ⟨RX7, TX7, 3, rfl, by decide, List.mem_of_getElem? (i := 226) (by decide +kernel)⟩
theorem pX7_7_0 : m_FP RX7 7 0 true := ⟨RX7, TX7, 3, rfl, by decide +kernel, fun _ => rfl⟩
theorem fX7_15 : m_FL RX7 15 7 1 := ⟨RX7, TX7, 3, rfl, by decide, List.mem_of_getElem? (i := 228) (by decide +kernel)⟩
theorem pX7_7_1 : m_FP RX7 7 1 true := ⟨RX7, TX7, 3, rfl, by decide +kernel, fun _ => rfl⟩
theorem fX7_24 : m_FL RX7 24 7 2 := ⟨RX7, TX7, 3, rfl, by decide, List.mem_of_getElem? (i := 229) (by decide +kernel)⟩
theorem pX7_7_2 : m_FP RX7 7 2 false := ⟨RX7, TX7, 3, rfl, by decide +kernel, fun z => by cases z⟩
theorem fX8_9 : m_FL RX8 9 8 8 := ⟨RX8, TX8, 16, rfl, by decide, List.mem_of_getElem? (i := 109) (by decide +kernel)⟩
theorem pX8_8_8 : m_FP RX8 8 8 true := ⟨RX8, TX8, 16, rfl, by decide +kernel, fun _ => rfl⟩
theorem fX8_15 : m_FL RX8 15 8 9 := ⟨RX8, TX8, 16, rfl, by decide, List.mem_of_getElem? (i := 112) (by decide +kernel)⟩
theorem pX8_8_9 : m_FP RX8 8 9 true := ⟨RX8, TX8, 16, rfl, by decide +kernel, fun _ => rfl⟩
theorem fX8_18 : m_FL RX8 18 8 15 := ⟨RX8, TX8, 16, rfl, by decide, List.mem_of_getElem? (i := 129) (by decide +kernel)⟩
theorem pX8_8_15 : m_FP RX8 8 15 false := ⟨RX8, TX8, 16, rfl, by decide +kernel, fun z => by cases z⟩
theorem fX8_28 : m_FL RX8 28 8 11 := ⟨RX8, TX8, 16, rfl, by decide, List.mem_of_getElem? (i := 117) (by decide +kernel)⟩
theorem fX8_32 : m_FL RX8 32 8 12 := ⟨RX8, TX8, 16, rfl, by decide, List.mem_of_getElem? (i := 121) (by decide +kernel)⟩
theorem fX8_35 : m_FL RX8 35 8 13 := ⟨RX8, TX8, 16, rfl, by decide, List.mem_of_getElem? (i := 125) (by decide +kernel)⟩
theorem fX8_38 : m_FL RX8 38 8 14 := ⟨RX8, TX8, 16, rfl, by decide, List.mem_of_getElem? (i := 128) (by decide +kernel)⟩
theorem fX8_41 : m_FL RX8 41 8 3 := ⟨RX8, TX8, 16, rfl, by decide, List.mem_of_getElem? (i := 98) (by decide +kernel)⟩
theorem fX8_44 : m_FL RX8 44 8 1 := ⟨RX8, TX8, 16, rfl, by decide, List.mem_of_getElem? (i := 94) (by decide +kernel)⟩
theorem fX8_47 : m_FL RX8 47 8 2 := ⟨RX8, TX8, 16, rfl, by decide, List.mem_of_getElem? (i := 96) (by decide +kernel)⟩
theorem pX8_8_12 : m_FP RX8 8 12 false := ⟨RX8, TX8, 16, rfl, by decide +kernel, fun z => by cases z⟩
theorem pX8_8_13 : m_FP RX8 8 13 false := ⟨RX8, TX8, 16, rfl, by decide +kernel, fun z => by cases z⟩
theorem pX8_8_14 : m_FP RX8 8 14 false := ⟨RX8, TX8, 16, rfl, by decide +kernel, fun z => by cases z⟩
theorem fX9_11 : m_FL RX9 11 9 0 := ⟨RX9, TX9, 5, rfl, by decide, List.mem_of_getElem? (i := 166) (by decide +kernel)⟩
theorem pX9_9_0 : m_FP RX9 9 0 true := ⟨RX9, TX9, 5, rfl, by decide +kernel, fun _ => rfl⟩
theorem fX9_17 : m_FL RX9 17 9 1 := ⟨RX9, TX9, 5, rfl, by decide, List.mem_of_getElem? (i := 172) (by decide +kernel)⟩
theorem pX9_9_1 : m_FP RX9 9 1 true := ⟨RX9, TX9, 5, rfl, by decide +kernel, fun _ => rfl⟩
theorem fX9_21 : m_FL RX9 21 9 2 := ⟨RX9, TX9, 5, rfl, by decide, List.mem_of_getElem? (i := 173) (by decide +kernel)⟩
theorem pX9_9_2 : m_FP RX9 9 2 true := ⟨RX9, TX9, 5, rfl, by decide +kernel, fun _ => rfl⟩
theorem fX9_25 : m_FL RX9 25 9 3 := ⟨RX9, TX9, 5, rfl, by decide, List.mem_of_getElem? (i := 174) (by decide +kernel)⟩
theorem fX9_29 : m_FL RX9 29 9 4 := ⟨RX9, TX9, 5, rfl, by decide, List.mem_of_getElem? (i := 177) (by decide +kernel)⟩
theorem fX9_43 : m_FL RX9 43 8 0 := ⟨RX8, TX8, 16, rfl, by decide, List.mem_of_getElem? (i := 89) (by decide +kernel)⟩
theorem pX9_8_0 : m_FP RX9 8 0 false := ⟨RX8, TX8, 16, rfl, by decide +kernel, fun z => by cases z⟩
theorem fX9_46 : m_FL RX9 46 8 1 := ⟨RX8, TX8, 16, rfl, by decide, List.mem_of_getElem? (i := 93) (by decide +kernel)⟩
theorem pX9_8_1 : m_FP RX9 8 1 false := ⟨RX8, TX8, 16, rfl, by decide +kernel, fun z => by cases z⟩
theorem fX9_49 : m_FL RX9 49 8 2 := ⟨RX8, TX8, 16, rfl, by decide, List.mem_of_getElem? (i := 95) (by decide +kernel)⟩
theorem pX9_8_2 : m_FP RX9 8 2 false := ⟨RX8, TX8, 16, rfl, by decide +kernel, fun z => by cases z⟩
theorem fX9_52 : m_FL RX9 52 8 3 := ⟨RX8, TX8, 16, rfl, by decide, List.mem_of_getElem? (i := 97) (by decide +kernel)⟩
theorem pX9_8_3 : m_FP RX9 8 3 false := ⟨RX8, TX8, 16, rfl, by decide +kernel, fun z => by cases z⟩
theorem fX9_55 : m_FL RX9 55 8 6 := ⟨RX8, TX8, 16, rfl, by decide, List.mem_of_getElem? (i := 107) (by decide +kernel)⟩
theorem pX9_8_6 : m_FP RX9 8 6 false := ⟨RX8, TX8, 16, rfl, by decide +kernel, fun z => by cases z⟩
theorem fX9_58 : m_FL RX9 58 8 7 := ⟨RX8, TX8, 16, rfl, by decide, List.mem_of_getElem? (i := 108) (by decide +kernel)⟩
theorem pX9_8_7 : m_FP RX9 8 7 false := ⟨RX8, TX8, 16, rfl, by decide +kernel, fun z => by cases z⟩
theorem pX9_9_3 : m_FP RX9 9 3 false := ⟨RX9, TX9, 5, rfl, by decide +kernel, fun z => by cases z⟩
theorem pX9_9_4 : m_FP RX9 9 4 false := ⟨RX9, TX9, 5, rfl, by decide +kernel, fun z => by cases z⟩
theorem fX9_78 : m_FL RX9 78 8 11 := ⟨RX8, TX8, 16, rfl, by decide, List.mem_of_getElem? (i := 119) (by decide +kernel)⟩
theorem fX9_85 : m_FL RX9 85 8 10 := ⟨RX8, TX8, 16, rfl, by decide, List.mem_of_getElem? (i := 116) (by decide +kernel)⟩
theorem pX9_8_10 : m_FP RX9 8 10 false := ⟨RX8, TX8, 16, rfl, by decide +kernel, fun z => by cases z⟩
theorem fX9_92 : m_FL RX9 92 8 8 := ⟨RX8, TX8, 16, rfl, by decide, List.mem_of_getElem? (i := 111) (by decide +kernel)⟩
theorem fX9_95 : m_FL RX9 95 8 9 := ⟨RX8, TX8, 16, rfl, by decide, List.mem_of_getElem? (i := 114) (by decide +kernel)⟩
theorem fX9_98 : m_FL RX9 98 8 5 := ⟨RX8, TX8, 16, rfl, by decide, List.mem_of_getElem? (i := 106) (by decide +kernel)⟩
theorem fX10_10 : m_FL RX10 10 10 0 := ⟨RX10, TX10, 6, rfl, by decide, List.mem_of_getElem? (i := 409) (by decide +kernel)⟩
theorem pX10_10_0 : m_FP RX10 10 0 true := ⟨RX10, TX10, 6, rfl, by decide +kernel, fun _ => rfl⟩
theorem fX10_19 : m_FL RX10 19 10 1 := ⟨RX10, TX10, 6, rfl, by decide, List.mem_of_getElem? (i := 410) (by decide +kernel)⟩
theorem pX10_10_1 : m_FP RX10 10 1 true := ⟨RX10, TX10, 6, rfl, by decide +kernel, fun _ => rfl⟩
theorem fX10_26 : m_FL RX10 26 10 2 := ⟨RX10, TX10, 6, rfl, by decide, List.mem_of_getElem? (i := 411) (by decide +kernel)⟩
theorem pX10_10_2 : m_FP RX10 10 2 true := ⟨RX10, TX10, 6, rfl, by decide +kernel, fun _ => rfl⟩
theorem fX10_35 : m_FL RX10 35 10 3 := ⟨RX10, TX10, 6, rfl, by decide, List.mem_of_getElem? (i := 412) (by decide +kernel)⟩
theorem pX10_10_3 : m_FP RX10 10 3 true := ⟨RX10, TX10, 6, rfl, by decide +kernel, fun _ => rfl⟩
theorem fX10_44 : m_FL RX10 44 10 4 := ⟨RX10, TX10, 6, rfl, by decide, List.mem_of_getElem? (i := 413) (by decide +kernel)⟩
theorem pX10_10_4 : m_FP RX10 10 4 true := ⟨RX10, TX10, 6, rfl, by decide +kernel, fun _ => rfl⟩
theorem fX10_53 : m_FL RX10 53 10 5 := ⟨RX10, TX10, 6, rfl, by decide, List.mem_of_getElem? (i := 414) (by decide +kernel)⟩
theorem pX10_10_5 : m_FP RX10 10 5 true := ⟨RX10, TX10, 6, rfl, by decide +kernel, fun _ => rfl⟩
theorem fX10_83 : m_FL RX10 83 9 4 := ⟨RX9, TX9, 5, rfl, by decide, List.mem_of_getElem? (i := 178) (by decide +kernel)⟩
theorem fX10_92 : m_FL RX10 92 9 3 := ⟨RX9, TX9, 5, rfl, by decide, List.mem_of_getElem? (i := 175) (by decide +kernel)⟩
theorem fX10_96 : m_FL RX10 96 9 0 := ⟨RX9, TX9, 5, rfl, by decide, List.mem_of_getElem? (i := 168) (by decide +kernel)⟩
theorem fX10_100 : m_FL RX10 100 8 11 := ⟨RX8, TX8, 16, rfl, by decide, List.mem_of_getElem? (i := 118) (by decide +kernel)⟩
theorem fX10_105 : m_FL RX10 105 8 12 := ⟨RX8, TX8, 16, rfl, by decide, List.mem_of_getElem? (i := 123) (by decide +kernel)⟩
theorem pX10_8_11 : m_FP RX10 8 11 false := ⟨RX8, TX8, 16, rfl, by decide +kernel, fun z => by cases z⟩
theorem fX10_120 : m_FL RX10 120 2 4 := ⟨RX2, TX2, 5, rfl, by decide, List.mem_of_getElem? (i := 207) (by decide +kernel)⟩
theorem fX10_123 : m_FL RX10 123 8 4 := ⟨RX8, TX8, 16, rfl, by decide, List.mem_of_getElem? (i := 102) (by decide +kernel)⟩
theorem pX10_8_4 : m_FP RX10 8 4 false := ⟨RX8, TX8, 16, rfl, by decide +kernel, fun z => by cases z⟩
theorem fX10_135 : m_FL RX10 135 8 8 := ⟨RX8, TX8, 16, rfl, by decide, List.mem_of_getElem? (i := 110) (by decide +kernel)⟩
theorem fX10_139 : m_FL RX10 139 8 9 := ⟨RX8, TX8, 16, rfl, by decide, List.mem_of_getElem? (i := 113) (by decide +kernel)⟩
theorem fX10_146 : m_FL RX10 146 8 10 := ⟨RX8, TX8, 16, rfl, by decide, List.mem_of_getElem? (i := 115) (by decide +kernel)⟩
theorem fX10_155 : m_FL RX10 155 8 5 := ⟨RX8, TX8, 16, rfl, by decide, List.mem_of_getElem? (i := 104) (by decide +kernel)⟩
theorem pX10_8_5 : m_FP RX10 8 5 false := ⟨RX8, TX8, 16, rfl, by decide +kernel, fun z => by cases z⟩
theorem fX10_173 : m_FL RX10 173 7 2 := ⟨RX7, TX7, 3, rfl, by decide, List.mem_of_getElem? (i := 230) (by decide +kernel)⟩
theorem fX10_190 : m_FL RX10 190 0 2 := ⟨RX0, TX0, 5, rfl, by decide, List.mem_of_getElem? (i := 357) (by decide +kernel)⟩
theorem fX10_194 : m_FL RX10 194 3 0 := ⟨RX3, TX3, 7, rfl, by decide, List.mem_of_getElem? (i := 314) (by decide +kernel)⟩
theorem pX10_3_0 : m_FP RX10 3 0 false := ⟨RX3, TX3, 7, rfl, by decide +kernel, fun z => by cases z⟩
theorem fX10_199 : m_FL RX10 199 3 1 := ⟨RX3, TX3, 7, rfl, by decide, List.mem_of_getElem? (i := 317) (by decide +kernel)⟩
theorem pX10_3_1 : m_FP RX10 3 1 false := ⟨RX3, TX3, 7, rfl, by decide +kernel, fun z => by cases z⟩
theorem fX10_202 : m_FL RX10 202 3 2 := ⟨RX3, TX3, 7, rfl, by decide, List.mem_of_getElem? (i := 320) (by decide +kernel)⟩
theorem pX10_3_2 : m_FP RX10 3 2 false := ⟨RX3, TX3, 7, rfl, by decide +kernel, fun z => by cases z⟩
theorem fX10_205 : m_FL RX10 205 3 6 := ⟨RX3, TX3, 7, rfl, by decide, List.mem_of_getElem? (i := 335) (by decide +kernel)⟩
theorem fX10_212 : m_FL RX10 212 0 4 := ⟨RX0, TX0, 5, rfl, by decide, List.mem_of_getElem? (i := 361) (by decide +kernel)⟩
theorem fX10_231 : m_FL RX10 231 8 15 := ⟨RX8, TX8, 16, rfl, by decide, List.mem_of_getElem? (i := 131) (by decide +kernel)⟩
theorem fX10_245 : m_FL RX10 245 4 2 := ⟨RX4, TX4, 3, rfl, by decide, List.mem_of_getElem? (i := 382) (by decide +kernel)⟩
theorem fX10_253 : m_FL RX10 253 3 5 := ⟨RX3, TX3, 7, rfl, by decide, List.mem_of_getElem? (i := 329) (by decide +kernel)⟩
theorem fX10_269 : m_FL RX10 269 1 7 := ⟨RX1, TX1, 11, rfl, by decide, List.mem_of_getElem? (i := 278) (by decide +kernel)⟩
theorem fX10_272 : m_FL RX10 272 1 6 := ⟨RX1, TX1, 11, rfl, by decide, List.mem_of_getElem? (i := 275) (by decide +kernel)⟩
theorem fX10_280 : m_FL RX10 280 0 1 := ⟨RX0, TX0, 5, rfl, by decide, List.mem_of_getElem? (i := 353) (by decide +kernel)⟩
theorem fX10_284 : m_FL RX10 284 8 3 := ⟨RX8, TX8, 16, rfl, by decide, List.mem_of_getElem? (i := 99) (by decide +kernel)⟩
theorem pX10_8_12 : m_FP RX10 8 12 false := ⟨RX8, TX8, 16, rfl, by decide +kernel, fun z => by cases z⟩
theorem fX10_295 : m_FL RX10 295 8 13 := ⟨RX8, TX8, 16, rfl, by decide, List.mem_of_getElem? (i := 127) (by decide +kernel)⟩
theorem pX10_8_13 : m_FP RX10 8 13 false := ⟨RX8, TX8, 16, rfl, by decide +kernel, fun z => by cases z⟩
theorem fX11_7 : m_FL RX11 7 11 4 := ⟨RX11, TX11, 41, rfl, by decide, List.mem_of_getElem? (i := 1005) (by decide +kernel)⟩
theorem pX11_11_4 : m_FP RX11 11 4 true := ⟨RX11, TX11, 41, rfl, by decide +kernel, fun _ => rfl⟩
theorem fX11_13 : m_FL RX11 13 11 5 := ⟨RX11, TX11, 41, rfl, by decide, List.mem_of_getElem? (i := 1006) (by decide +kernel)⟩
theorem pX11_11_5 : m_FP RX11 11 5 true := ⟨RX11, TX11, 41, rfl, by decide +kernel, fun _ => rfl⟩
theorem fX11_16 : m_FL RX11 16 11 6 := ⟨RX11, TX11, 41, rfl, by decide, List.mem_of_getElem? (i := 1007) (by decide +kernel)⟩
theorem pX11_11_6 : m_FP RX11 11 6 true := ⟨RX11, TX11, 41, rfl, by decide +kernel, fun _ => rfl⟩
theorem fX11_19 : m_FL RX11 19 11 7 := ⟨RX11, TX11, 41, rfl, by decide, List.mem_of_getElem? (i := 1008) (by decide +kernel)⟩
theorem pX11_11_7 : m_FP RX11 11 7 true := ⟨RX11, TX11, 41, rfl, by decide +kernel, fun _ => rfl⟩
theorem fX11_22 : m_FL RX11 22 11 8 := ⟨RX11, TX11, 41, rfl, by decide, List.mem_of_getElem? (i := 1009) (by decide +kernel)⟩
theorem pX11_11_8 : m_FP RX11 11 8 true := ⟨RX11, TX11, 41, rfl, by decide +kernel, fun _ => rfl⟩
theorem fX11_26 : m_FL RX11 26 11 9 := ⟨RX11, TX11, 41, rfl, by decide, List.mem_of_getElem? (i := 1010) (by decide +kernel)⟩
theorem pX11_11_9 : m_FP RX11 11 9 true := ⟨RX11, TX11, 41, rfl, by decide +kernel, fun _ => rfl⟩
theorem fX11_29 : m_FL RX11 29 11 10 := ⟨RX11, TX11, 41, rfl, by decide, List.mem_of_getElem? (i := 1011) (by decide +kernel)⟩
theorem pX11_11_10 : m_FP RX11 11 10 true := ⟨RX11, TX11, 41, rfl, by decide +kernel, fun _ => rfl⟩
theorem fX11_32 : m_FL RX11 32 11 11 := ⟨RX11, TX11, 41, rfl, by decide, List.mem_of_getElem? (i := 1012) (by decide +kernel)⟩
theorem pX11_11_11 : m_FP RX11 11 11 true := ⟨RX11, TX11, 41, rfl, by decide +kernel, fun _ => rfl⟩
theorem fX11_35 : m_FL RX11 35 11 12 := ⟨RX11, TX11, 41, rfl, by decide, List.mem_of_getElem? (i := 1013) (by decide +kernel)⟩
theorem pX11_11_12 : m_FP RX11 11 12 true := ⟨RX11, TX11, 41, rfl, by decide +kernel, fun _ => rfl⟩
theorem fX11_38 : m_FL RX11 38 11 13 := ⟨RX11, TX11, 41, rfl, by decide, List.mem_of_getElem? (i := 1014) (by decide +kernel)⟩
theorem pX11_11_13 : m_FP RX11 11 13 true := ⟨RX11, TX11, 41, rfl, by decide +kernel, fun _ => rfl⟩
theorem fX11_41 : m_FL RX11 41 11 14 := ⟨RX11, TX11, 41, rfl, by decide, List.mem_of_getElem? (i := 1015) (by decide +kernel)⟩
theorem pX11_11_14 : m_FP RX11 11 14 true := ⟨RX11, TX11, 41, rfl, by decide +kernel, fun _ => rfl⟩
theorem fX11_44 : m_FL RX11 44 11 15 := ⟨RX11, TX11, 41, rfl, by decide, List.mem_of_getElem? (i := 1016) (by decide +kernel)⟩
theorem pX11_11_15 : m_FP RX11 11 15 true := ⟨RX11, TX11, 41, rfl, by decide +kernel, fun _ => rfl⟩
theorem fX11_47 : m_FL RX11 47 11 16 := ⟨RX11, TX11, 41, rfl, by decide, List.mem_of_getElem? (i := 1017) (by decide +kernel)⟩
theorem pX11_11_16 : m_FP RX11 11 16 true := ⟨RX11, TX11, 41, rfl, by decide +kernel, fun _ => rfl⟩
theorem fX11_50 : m_FL RX11 50 11 17 := ⟨RX11, TX11, 41, rfl, by decide, List.mem_of_getElem? (i := 1018) (by decide +kernel)⟩
theorem pX11_11_17 : m_FP RX11 11 17 true := ⟨RX11, TX11, 41, rfl, by decide +kernel, fun _ => rfl⟩
theorem fX11_53 : m_FL RX11 53 11 18 := ⟨RX11, TX11, 41, rfl, by decide, List.mem_of_getElem? (i := 1019) (by decide +kernel)⟩
theorem pX11_11_18 : m_FP RX11 11 18 true := ⟨RX11, TX11, 41, rfl, by decide +kernel, fun _ => rfl⟩
theorem fX11_56 : m_FL RX11 56 11 19 := ⟨RX11, TX11, 41, rfl, by decide, List.mem_of_getElem? (i := 1020) (by decide +kernel)⟩
theorem pX11_11_19 : m_FP RX11 11 19 true := ⟨RX11, TX11, 41, rfl, by decide +kernel, fun _ => rfl⟩
theorem fX11_59 : m_FL RX11 59 11 23 := ⟨RX11, TX11, 41, rfl, by decide, List.mem_of_getElem? (i := 1024) (by decide +kernel)⟩
theorem pX11_11_23 : m_FP RX11 11 23 true := ⟨RX11, TX11, 41, rfl, by decide +kernel, fun _ => rfl⟩
theorem fX11_62 : m_FL RX11 62 11 24 := ⟨RX11, TX11, 41, rfl, by decide, List.mem_of_getElem? (i := 1025) (by decide +kernel)⟩
theorem pX11_11_24 : m_FP RX11 11 24 true := ⟨RX11, TX11, 41, rfl, by decide +kernel, fun _ => rfl⟩
theorem fX11_65 : m_FL RX11 65 11 25 := ⟨RX11, TX11, 41, rfl, by decide, List.mem_of_getElem? (i := 1026) (by decide +kernel)⟩
theorem pX11_11_25 : m_FP RX11 11 25 true := ⟨RX11, TX11, 41, rfl, by decide +kernel, fun _ => rfl⟩
theorem fX11_68 : m_FL RX11 68 11 26 := ⟨RX11, TX11, 41, rfl, by decide, List.mem_of_getElem? (i := 1027) (by decide +kernel)⟩
theorem pX11_11_26 : m_FP RX11 11 26 true := ⟨RX11, TX11, 41, rfl, by decide +kernel, fun _ => rfl⟩
theorem fX11_71 : m_FL RX11 71 11 27 := ⟨RX11, TX11, 41, rfl, by decide, List.mem_of_getElem? (i := 1028) (by decide +kernel)⟩
theorem pX11_11_27 : m_FP RX11 11 27 true := ⟨RX11, TX11, 41, rfl, by decide +kernel, fun _ => rfl⟩
theorem fX11_74 : m_FL RX11 74 11 29 := ⟨RX11, TX11, 41, rfl, by decide, List.mem_of_getElem? (i := 1030) (by decide +kernel)⟩
theorem pX11_11_29 : m_FP RX11 11 29 true := ⟨RX11, TX11, 41, rfl, by decide +kernel, fun _ => rfl⟩
theorem fX11_77 : m_FL RX11 77 11 30 := ⟨RX11, TX11, 41, rfl, by decide, List.mem_of_getElem? (i := 1031) (by decide +kernel)⟩
theorem pX11_11_30 : m_FP RX11 11 30 true := ⟨RX11, TX11, 41, rfl, by decide +kernel, fun _ => rfl⟩
theorem fX11_80 : m_FL RX11 80 11 31 := ⟨RX11, TX11, 41, rfl, by decide, List.mem_of_getElem? (i := 1032) (by decide +kernel)⟩
theorem pX11_11_31 : m_FP RX11 11 31 true := ⟨RX11, TX11, 41, rfl, by decide +kernel, fun _ => rfl⟩
theorem fX11_83 : m_FL RX11 83 11 32 := ⟨RX11, TX11, 41, rfl, by decide, List.mem_of_getElem? (i := 1033) (by decide +kernel)⟩
theorem pX11_11_32 : m_FP RX11 11 32 true := ⟨RX11, TX11, 41, rfl, by decide +kernel, fun _ => rfl⟩
theorem fX11_86 : m_FL RX11 86 11 33 := ⟨RX11, TX11, 41, rfl, by decide, List.mem_of_getElem? (i := 1034) (by decide +kernel)⟩
theorem pX11_11_33 : m_FP RX11 11 33 true := ⟨RX11, TX11, 41, rfl, by decide +kernel, fun _ => rfl⟩
theorem fX11_89 : m_FL RX11 89 11 34 := ⟨RX11, TX11, 41, rfl, by decide, List.mem_of_getElem? (i := 1035) (by decide +kernel)⟩
theorem pX11_11_34 : m_FP RX11 11 34 true := ⟨RX11, TX11, 41, rfl, by decide +kernel, fun _ => rfl⟩
theorem fX11_92 : m_FL RX11 92 11 35 := ⟨RX11, TX11, 41, rfl, by decide, List.mem_of_getElem? (i := 1036) (by decide +kernel)⟩
theorem pX11_11_35 : m_FP RX11 11 35 true := ⟨RX11, TX11, 41, rfl, by decide +kernel, fun _ => rfl⟩
theorem fX11_95 : m_FL RX11 95 11 36 := ⟨RX11, TX11, 41, rfl, by decide, List.mem_of_getElem? (i := 1037) (by decide +kernel)⟩
theorem pX11_11_36 : m_FP RX11 11 36 true := ⟨RX11, TX11, 41, rfl, by decide +kernel, fun _ => rfl⟩
theorem fX11_98 : m_FL RX11 98 11 37 := ⟨RX11, TX11, 41, rfl, by decide, List.mem_of_getElem? (i := 1038) (by decide +kernel)⟩
theorem pX11_11_37 : m_FP RX11 11 37 true := ⟨RX11, TX11, 41, rfl, by decide +kernel, fun _ => rfl⟩
theorem fX11_101 : m_FL RX11 101 11 38 := ⟨RX11, TX11, 41, rfl, by decide, List.mem_of_getElem? (i := 1039) (by decide +kernel)⟩
theorem pX11_11_38 : m_FP RX11 11 38 true := ⟨RX11, TX11, 41, rfl, by decide +kernel, fun _ => rfl⟩
theorem fX11_104 : m_FL RX11 104 11 39 := ⟨RX11, TX11, 41, rfl, by decide, List.mem_of_getElem? (i := 1040) (by decide +kernel)⟩
theorem pX11_11_39 : m_FP RX11 11 39 true := ⟨RX11, TX11, 41, rfl, by decide +kernel, fun _ => rfl⟩
theorem fX11_107 : m_FL RX11 107 11 40 := ⟨RX11, TX11, 41, rfl, by decide, List.mem_of_getElem? (i := 1041) (by decide +kernel)⟩
theorem pX11_11_40 : m_FP RX11 11 40 true := ⟨RX11, TX11, 41, rfl, by decide +kernel, fun _ => rfl⟩
theorem fX11_110 : m_FL RX11 110 11 0 := ⟨RX11, TX11, 41, rfl, by decide, List.mem_of_getElem? (i := 1001) (by decide +kernel)⟩
theorem pX11_11_0 : m_FP RX11 11 0 false := ⟨RX11, TX11, 41, rfl, by decide +kernel, fun z => by cases z⟩
theorem fX11_114 : m_FL RX11 114 11 3 := ⟨RX11, TX11, 41, rfl, by decide, List.mem_of_getElem? (i := 1004) (by decide +kernel)⟩
theorem fX11_121 : m_FL RX11 121 11 22 := ⟨RX11, TX11, 41, rfl, by decide, List.mem_of_getElem? (i := 1023) (by decide +kernel)⟩
theorem fX11_124 : m_FL RX11 124 11 28 := ⟨RX11, TX11, 41, rfl, by decide, List.mem_of_getElem? (i := 1029) (by decide +kernel)⟩
theorem pX11_11_3 : m_FP RX11 11 3 false := ⟨RX11, TX11, 41, rfl, by decide +kernel, fun z => by cases z⟩
theorem fX11_141 : m_FL RX11 141 11 2 := ⟨RX11, TX11, 41, rfl, by decide, List.mem_of_getElem? (i := 1003) (by decide +kernel)⟩
theorem pX11_11_2 : m_FP RX11 11 2 false := ⟨RX11, TX11, 41, rfl, by decide +kernel, fun z => by cases z⟩
theorem pX11_11_22 : m_FP RX11 11 22 false := ⟨RX11, TX11, 41, rfl, by decide +kernel, fun z => by cases z⟩
theorem pX11_11_28 : m_FP RX11 11 28 false := ⟨RX11, TX11, 41, rfl, by decide +kernel, fun z => by cases z⟩
theorem fX11_172 : m_FL RX11 172 11 21 := ⟨RX11, TX11, 41, rfl, by decide, List.mem_of_getElem? (i := 1022) (by decide +kernel)⟩
theorem fX11_175 : m_FL RX11 175 11 20 := ⟨RX11, TX11, 41, rfl, by decide, List.mem_of_getElem? (i := 1021) (by decide +kernel)⟩
theorem fX11_192 : m_FL RX11 192 11 1 := ⟨RX11, TX11, 41, rfl, by decide, List.mem_of_getElem? (i := 1002) (by decide +kernel)⟩
theorem pX11_11_20 : m_FP RX11 11 20 false := ⟨RX11, TX11, 41, rfl, by decide +kernel, fun z => by cases z⟩
theorem pX11_11_21 : m_FP RX11 11 21 false := ⟨RX11, TX11, 41, rfl, by decide +kernel, fun z => by cases z⟩
theorem pX11_11_1 : m_FP RX11 11 1 false := ⟨RX11, TX11, 41, rfl, by decide +kernel, fun z => by cases z⟩

/-! the system's methods: name, code, locals, answer's type, own class, rank (how deep its calls go), how many arguments -/
abbrev ri_Row : Type := MethodName × ByteArray × Nat × Option FieldType × Nat × Nat × Nat
def ri_M0 : List ri_Row := [(yX0_init, cX0_init, 3, none, 0, 1, 2), (yX0_get, cX0_get, 4, (some .int), 0, 0, 2), (yX0_set, cX0_set, 5, none, 0, 0, 3), (yX0_copyFrom, cX0_copyFrom, 3, none, 0, 1, 1), (yX1_init, cX1_init, 2, none, 1, 1, 1), (yX1_has, cX1_has, 3, (some .boolean), 1, 0, 2), (yX1_size, cX1_size, 2, (some .int), 1, 1, 1), (yX1_sizeWithin, cX1_sizeWithin, 6, (some .int), 1, 1, 3), (yX1_gapsWithin, cX1_gapsWithin, 8, (some .int), 1, 1, 3), (yX1_set, cX1_set, 6, none, 1, 0, 3), (yX1_sizeOfAll, cX1_sizeOfAll, 3, (some .int), 1, 1, 0), (yX1_clear, cX1_clear, 2, none, 1, 0, 0), (yX1_copyFrom, cX1_copyFrom, 3, none, 1, 1, 1), (yX2_init, cX2_init, 1, none, 2, 2, 0), (yX2_copyFrom, cX2_copyFrom, 2, none, 2, 2, 1), (yX2_slots, cX2_slots, 1, (some .int), 2, 0, 0), (yX2_knowsSlot, cX2_knowsSlot, 2, (some .boolean), 2, 1, 1), (yX2_firstOfDayOf, cX2_firstOfDayOf, 2, (some .int), 2, 0, 1), (yX2_isHoliday, cX2_isHoliday, 2, (some .boolean), 2, 1, 1), (yX2_setHoliday, cX2_setHoliday, 3, none, 2, 1, 2), (yX2_allHolidays, cX2_allHolidays, 1, (some .int), 2, 2, 0), (yX2_openBefore, cX2_openBefore, 4, (some .int), 2, 2, 1), (yX2_dayAfter, cX2_dayAfter, 2, (some .int), 2, 0, 1), (yX2_knowsCourse, cX2_knowsCourse, 2, (some .boolean), 2, 1, 1), (yX2_knowsRoom, cX2_knowsRoom, 2, (some .boolean), 2, 1, 1), (yX2_fact, cX2_fact, 3, (some .int), 2, 1, 2), (yX2_isFor, cX2_isFor, 5, (some .boolean), 2, 2, 3), (yX2_rowOfHalf, cX2_rowOfHalf, 2, (some .int), 2, 0, 2), (yX2_coursesOfTeacher, cX2_coursesOfTeacher, 4, (some .int), 2, 2, 1), (yX2_lessonsOfTeacher, cX2_lessonsOfTeacher, 4, (some .int), 2, 2, 1), (yX2_knowsLesson, cX2_knowsLesson, 3, (some .boolean), 2, 2, 2), (yX2_setLesson, cX2_setLesson, 5, none, 2, 2, 4), (yX2_setHalves, cX2_setHalves, 6, none, 2, 1, 4), (yX2_rowInRoom, cX2_rowInRoom, 2, (some .int), 2, 0, 2), (yX2_isInRoom, cX2_isInRoom, 4, (some .boolean), 2, 1, 3), (yX2_roomOf, cX2_roomOf, 4, (some .int), 2, 2, 2), (yX2_placed, cX2_placed, 2, (some .int), 2, 2, 1), (yX2_missing, cX2_missing, 2, (some .int), 2, 3, 1), (yX2_allPlaced, cX2_allPlaced, 1, (some .int), 2, 2, 0), (yX2_allMissing, cX2_allMissing, 3, (some .int), 2, 4, 0)]
def ri_M1 : List ri_Row := [(yX2_missingOfHalf, cX2_missingOfHalf, 5, (some .int), 2, 4, 2), (yX2_lessonsIn, cX2_lessonsIn, 4, (some .int), 2, 1, 1), (yX2_mostOnADay, cX2_mostOnADay, 4, (some .int), 2, 2, 1), (yX2_windows, cX2_windows, 5, (some .int), 2, 2, 2), (yX2_errorOfPlacing, cX2_errorOfPlacing, 4, (some .int), 2, 5, 3), (yX2_firstReason, cX2_firstReason, 5, (some .int), 2, 4, 3), (yX2_reasonOfSlot, cX2_reasonOfSlot, 5, (some .int), 2, 3, 2), (yX2_reasonOfRoom, cX2_reasonOfRoom, 5, (some .int), 2, 2, 3), (yX2_hasBusyGroup, cX2_hasBusyGroup, 4, (some .boolean), 2, 2, 2), (yX2_isBusy, cX2_isBusy, 5, (some .boolean), 2, 1, 3), (yX2_lowestFreeRoom, cX2_lowestFreeRoom, 4, (some .int), 2, 4, 2), (yX2_freePlaces, cX2_freePlaces, 4, (some .int), 2, 4, 1), (yX2_freeRooms, cX2_freeRooms, 5, (some .int), 2, 3, 2), (yX3_init, cX3_init, 1, none, 3, 2, 0), (yX3_append, cX3_append, 2, none, 3, 1, 1), (yX3_parse, cX3_parse, 5, (some .int), 3, 3, 0), (yX3_putPlacing, cX3_putPlacing, 4, none, 3, 1, 3), (yX3_reads, cX3_reads, 2, (some .boolean), 3, 1, 1), (yX3_readDigit, cX3_readDigit, 2, (some .int), 3, 1, 0), (yX3_readNumber, cX3_readNumber, 3, (some .int), 3, 2, 0), (yX4_init, cX4_init, 2, none, 4, 3, 0), (yX4_setCycle, cX4_setCycle, 3, (some .int), 4, 4, 2), (yX4_holiday, cX4_holiday, 3, (some .int), 4, 4, 2), (yX4_addGroup, cX4_addGroup, 2, (some .int), 4, 4, 0), (yX4_addTeacher, cX4_addTeacher, 4, (some .int), 4, 4, 2), (yX4_addRoom, cX4_addRoom, 3, (some .int), 4, 4, 1), (yX4_addCourse, cX4_addCourse, 7, (some .int), 4, 4, 5), (yX4_join, cX4_join, 3, (some .int), 4, 4, 2), (yX4_bar, cX4_bar, 4, (some .int), 4, 4, 3), (yX4_place, cX4_place, 5, (some .int), 4, 6, 3), (yX4_takeAway, cX4_takeAway, 3, (some .int), 4, 4, 2), (yX4_move, cX4_move, 6, (some .int), 4, 5, 4), (yX4_swap, cX4_swap, 7, (some .int), 4, 5, 4), (yX4_fill, cX4_fill, 5, (some .int), 4, 5, 1), (yX4_type, cX4_type, 2, (some .int), 4, 2, 1), (yX4_clearText, cX4_clearText, 2, (some .int), 4, 0, 0), (yX4_readPlacings, cX4_readPlacings, 7, (some .int), 4, 6, 0), (yX4_undo, cX4_undo, 1, (some .int), 4, 3, 0), (yX4_keep, cX4_keep, 1, (some .int), 4, 3, 0), (yX4_restore, cX4_restore, 1, (some .int), 4, 4, 0)]
def ri_M2 : List ri_Row := [(yX4_reason, cX4_reason, 4, (some .int), 4, 5, 3), (yX4_course, cX4_course, 3, (some .int), 4, 5, 2), (yX4_lessonAt, cX4_lessonAt, 5, (some .int), 4, 3, 2), (yX4_groupAt, cX4_groupAt, 5, (some .int), 4, 3, 3), (yX4_roomAt, cX4_roomAt, 4, (some .int), 4, 2, 2), (yX4_teacherAt, cX4_teacherAt, 4, (some .int), 4, 2, 2), (yX4_teacher, cX4_teacher, 3, (some .int), 4, 3, 2), (yX4_group, cX4_group, 5, (some .int), 4, 5, 3), (yX4_room, cX4_room, 3, (some .int), 4, 2, 2), (yX4_dayOf, cX4_dayOf, 2, (some .int), 4, 3, 1), (yX4_nextDate, cX4_nextDate, 5, (some .int), 4, 3, 2), (yX4_count, cX4_count, 2, (some .int), 4, 5, 1), (yX4_isIn, cX4_isIn, 3, (some .boolean), 4, 0, 3), (yX4_isDate, cX4_isDate, 1, (some .boolean), 4, 1, 1), (yX4_knowsGroup, cX4_knowsGroup, 2, (some .boolean), 4, 1, 1), (yX4_knowsTeacher, cX4_knowsTeacher, 2, (some .boolean), 4, 1, 1), (yX4_knowsCourse, cX4_knowsCourse, 2, (some .boolean), 4, 2, 1), (yX4_remember, cX4_remember, 2, none, 4, 3, 0), (yX4_adoptTrial, cX4_adoptTrial, 1, none, 4, 4, 0), (yX4_historyAt, cX4_historyAt, 3, (some (.object RX2)), 4, 0, 1), (yX5_init, cX5_init, 1, none, 5, 1, 0), (yX5_isIn, cX5_isIn, 3, (some .boolean), 5, 0, 3), (yX5_slots, cX5_slots, 1, (some .int), 5, 0, 0), (yX5_isSlot, cX5_isSlot, 2, (some .boolean), 5, 1, 1), (yX5_isGroup, cX5_isGroup, 2, (some .boolean), 5, 1, 1), (yX5_isTeacher, cX5_isTeacher, 2, (some .boolean), 5, 1, 1), (yX5_isRoom, cX5_isRoom, 2, (some .boolean), 5, 1, 1), (yX5_isCourse, cX5_isCourse, 2, (some .boolean), 5, 1, 1), (yX5_of, cX5_of, 3, (some .int), 5, 0, 2), (yX5_roomOf, cX5_roomOf, 4, (some .int), 5, 0, 2), (yX5_has, cX5_has, 3, (some .boolean), 5, 1, 2), (yX5_puts, cX5_puts, 4, none, 5, 0, 3), (yX5_isBarred, cX5_isBarred, 3, (some .boolean), 5, 0, 2), (yX5_keeps, cX5_keeps, 3, none, 5, 0, 1), (yX5_brings, cX5_brings, 3, none, 5, 0, 1), (yX5_recordsTrial, cX5_recordsTrial, 2, none, 5, 0, 0), (yX5_records, cX5_records, 1, none, 5, 1, 0), (yX5_undo, cX5_undo, 1, (some .int), 5, 1, 0), (yX5_placedInAll, cX5_placedInAll, 3, (some .int), 5, 3, 0), (yX5_keep, cX5_keep, 1, (some .int), 5, 4, 0)]
def ri_M3 : List ri_Row := [(yX5_restore, cX5_restore, 1, (some .int), 5, 4, 0), (yX5_setCycle, cX5_setCycle, 4, (some .int), 5, 4, 2), (yX5_holidays, cX5_holidays, 4, (some .int), 5, 0, 1), (yX5_holiday, cX5_holiday, 4, (some .int), 5, 2, 2), (yX5_dayBy, cX5_dayBy, 2, (some .int), 5, 1, 1), (yX5_dayOf, cX5_dayOf, 2, (some .int), 5, 2, 1), (yX5_nextDate, cX5_nextDate, 4, (some .int), 5, 2, 2), (yX5_addGroup, cX5_addGroup, 1, (some .int), 5, 2, 0), (yX5_addTeacher, cX5_addTeacher, 4, (some .int), 5, 2, 2), (yX5_addRoom, cX5_addRoom, 2, (some .int), 5, 2, 1), (yX5_addCourse, cX5_addCourse, 7, (some .int), 5, 2, 5), (yX5_join, cX5_join, 3, (some .int), 5, 3, 2), (yX5_barred, cX5_barred, 4, (some .int), 5, 1, 1), (yX5_bar, cX5_bar, 4, (some .int), 5, 3, 3), (yX5_placed, cX5_placed, 4, (some .int), 5, 2, 1), (yX5_courseOf, cX5_courseOf, 4, (some .int), 5, 2, 2), (yX5_courseIn, cX5_courseIn, 4, (some .int), 5, 1, 2), (yX5_onDay, cX5_onDay, 8, (some .int), 5, 2, 3), (yX5_lessonsOf, cX5_lessonsOf, 4, (some .int), 5, 3, 1), (yX5_isFor, cX5_isFor, 3, (some .boolean), 5, 1, 2), (yX5_isBusy, cX5_isBusy, 7, (some .boolean), 5, 2, 2), (yX5_reasonOf, cX5_reasonOf, 6, (some .int), 5, 4, 3), (yX5_reason, cX5_reason, 4, (some .int), 5, 5, 3), (yX5_placeError, cX5_placeError, 4, (some .int), 5, 5, 3), (yX5_place, cX5_place, 5, (some .int), 5, 6, 3), (yX5_isLesson, cX5_isLesson, 3, (some .boolean), 5, 2, 2), (yX5_takeAway, cX5_takeAway, 3, (some .int), 5, 3, 2), (yX5_move, cX5_move, 6, (some .int), 5, 5, 4), (yX5_lessonsIn, cX5_lessonsIn, 4, (some .int), 5, 2, 1), (yX5_swap, cX5_swap, 8, (some .int), 5, 5, 4), (yX5_fills, cX5_fills, 4, (some .boolean), 5, 5, 1), (yX5_fill, cX5_fill, 3, (some .int), 5, 6, 1), (yX5_type, cX5_type, 2, (some .int), 5, 0, 1), (yX5_clearText, cX5_clearText, 2, (some .int), 5, 0, 0), (yX5_isHere, cX5_isHere, 3, (some .boolean), 5, 1, 2), (yX5_passesSign, cX5_passesSign, 3, (some .boolean), 5, 2, 1), (yX5_passesNumber, cX5_passesNumber, 4, (some .boolean), 5, 2, 1), (yX5_passesPlacing, cX5_passesPlacing, 1, (some .boolean), 5, 3, 0), (yX5_faultOf, cX5_faultOf, 1, (some .int), 5, 4, 0), (yX5_readPlacings, cX5_readPlacings, 5, (some .int), 5, 6, 0)]
def ri_M4 : List ri_Row := [(yX5_placesFor, cX5_placesFor, 5, (some .int), 5, 5, 1), (yX5_course, cX5_course, 3, (some .int), 5, 6, 2), (yX5_lessonAt, cX5_lessonAt, 5, (some .int), 5, 2, 2), (yX5_takesPart, cX5_takesPart, 4, (some .boolean), 5, 2, 3), (yX5_courseFor, cX5_courseFor, 5, (some .int), 5, 3, 3), (yX5_groupAt, cX5_groupAt, 4, (some .int), 5, 4, 3), (yX5_roomAt, cX5_roomAt, 3, (some .int), 5, 2, 2), (yX5_teacherAt, cX5_teacherAt, 3, (some .int), 5, 3, 2), (yX5_windows, cX5_windows, 9, (some .int), 5, 4, 2), (yX5_mostOnDay, cX5_mostOnDay, 5, (some .int), 5, 3, 1), (yX5_coursesOf, cX5_coursesOf, 5, (some .int), 5, 1, 2), (yX5_teacher, cX5_teacher, 3, (some .int), 5, 5, 2), (yX5_lessonsFor, cX5_lessonsFor, 6, (some .int), 5, 3, 3), (yX5_group, cX5_group, 4, (some .int), 5, 5, 3), (yX5_taken, cX5_taken, 4, (some .int), 5, 2, 1), (yX5_room, cX5_room, 3, (some .int), 5, 3, 2), (yX5_lessonsInAll, cX5_lessonsInAll, 3, (some .int), 5, 1, 0), (yX5_count, cX5_count, 2, (some .int), 5, 4, 1), (yJ13_bitCount_95d88, cJ13_bitCount_95d88, 2, (some .int), 6, 0, 1), (yL_law, cL_law, 4, (some .boolean), 7, 7, 1)]
def ri_M : List ri_Row := ri_M0 ++ (ri_M1 ++ (ri_M2 ++ (ri_M3 ++ (ri_M4))))
def ri_row (y : Nat) : ri_Row := ri_M.getD y (yL_law, cL_law, 0, none, 0, 0, 0)
def ri_nm (y : Nat) : MethodName := (ri_row y).1
def ri_bc (y : Nat) : ByteArray := (ri_row y).2.1
def ri_ml (y : Nat) : Nat := (ri_row y).2.2.1
def ri_rt (y : Nat) : Option FieldType := (ri_row y).2.2.2.1
def ri_ow (y : Nat) : Nat := (ri_row y).2.2.2.2.1
def ri_rk (y : Nat) : Nat := (ri_row y).2.2.2.2.2.1
def ri_na (y : Nat) : Nat := (ri_row y).2.2.2.2.2.2
def ri_owns : List String := [RX0, RX1, RX2, RX3, RX4, RX5, RJ13, RL]
def ri_on (o : Nat) : String := ri_owns.getD o RL
/-- a field's link: own class, pool number; class, place; where its word stands in lw_tbl -/
def ri_FL : List (Nat × Nat × Nat × Nat × Nat) := [(4, 10, 4, 0, 206), (4, 16, 4, 1, 207), (4, 19, 4, 2, 208), (4, 22, 4, 3, 209), (4, 26, 4, 4, 210), (4, 30, 4, 5, 211), (4, 34, 4, 6, 212), (4, 40, 4, 7, 213), (4, 52, 2, 0, 116), (4, 55, 2, 1, 118), (4, 61, 2, 10, 135), (4, 87, 2, 2, 120), (4, 90, 2, 3, 122), (4, 93, 2, 6, 128), (4, 103, 2, 4, 124), (4, 106, 2, 7, 130), (4, 115, 2, 5, 126), (4, 118, 2, 8, 132), (4, 138, 2, 13, 140), (4, 184, 3, 0, 188), (4, 194, 3, 1, 190), (4, 197, 3, 2, 192), (4, 210, 2, 12, 138), (4, 235, 2, 15, 144), (4, 241, 2, 14, 142), (0, 7, 0, 0, 95), (0, 19, 0, 1, 96), (1, 13, 1, 0, 110), (2, 9, 2, 0, 115), (2, 15, 2, 1, 117), (2, 18, 2, 2, 119), (2, 21, 2, 3, 121), (2, 24, 2, 4, 123), (2, 27, 2, 5, 125), (2, 35, 2, 6, 127), (2, 39, 2, 7, 129), (2, 42, 2, 8, 131), (2, 50, 2, 9, 133), (2, 54, 2, 10, 134), (2, 57, 2, 11, 136), (2, 60, 2, 12, 137), (2, 63, 2, 13, 139), (2, 66, 2, 14, 141), (2, 69, 2, 15, 143), (3, 9, 3, 0, 187), (3, 15, 3, 1, 189), (3, 23, 3, 2, 191), (3, 27, 3, 3, 193), (3, 30, 3, 4, 194), (5, 7, 5, 0, 650), (5, 13, 5, 1, 651), (5, 16, 5, 4, 654), (5, 31, 5, 2, 652), (5, 49, 5, 3, 653), (5, 133, 5, 5, 655), (5, 136, 5, 6, 656), (5, 142, 5, 7, 657), (5, 148, 5, 8, 658), (5, 154, 5, 9, 659), (5, 157, 5, 10, 660)]
def ri_ML : List (Nat × Nat × Nat × Nat × List Nat) := [(4, 1, 4, 0, [77, 78, 79]), (4, 9, 3, 13, [82, 83, 64]), (4, 39, 3, 53, [181, 182, 68]), (4, 44, 1, 92, [235, 236, 63]), (4, 48, 0, 38, [238, 239, 240, 64]), (4, 58, 0, 97, [252, 254, 0, 63]), (4, 65, 0, 11, [280, 281, 282, 67]), (4, 70, 0, 15, [284, 285, 286, 64]), (4, 73, 1, 93, [292, 293, 63]), (4, 77, 0, 18, [295, 296, 297, 64]), (4, 80, 0, 19, [303, 304, 305, 64]), (4, 84, 0, 20, [312, 313, 314, 64]), (4, 97, 0, 2, [324, 325, 326, 65]), (4, 109, 0, 94, [336, 338, 2, 63]), (4, 112, 0, 95, [340, 342, 3, 63]), (4, 121, 0, 96, [348, 350, 4, 63]), (4, 124, 0, 25, [357, 358, 359, 64]), (4, 128, 0, 36, [365, 366, 367, 64]), (4, 132, 0, 37, [373, 374, 375, 64]), (4, 135, 0, 16, [383, 384, 385, 64]), (4, 141, 0, 5, [388, 300, 301, 67]), (4, 145, 0, 9, [389, 308, 309, 67]), (4, 148, 0, 6, [390, 370, 371, 67]), (4, 151, 0, 44, [395, 396, 397, 64]), (4, 155, 0, 31, [436, 437, 438, 64]), (4, 159, 0, 30, [451, 452, 453, 64]), (4, 162, 0, 35, [455, 456, 457, 64]), (4, 165, 0, 24, [467, 402, 403, 64]), (4, 168, 0, 14, [260, 261, 262, 64]), (4, 172, 0, 45, [468, 406, 407, 64]), (4, 175, 0, 98, [469, 471, 11, 63]), (4, 178, 0, 41, [477, 478, 479, 64]), (4, 181, 0, 50, [485, 486, 487, 64]), (4, 187, 0, 54, [493, 494, 495, 68]), (4, 191, 0, 55, [506, 507, 508, 68]), (4, 200, 0, 1, [528, 362, 363, 65]), (4, 203, 0, 99, [256, 258, 1, 63]), (4, 207, 0, 51, [549, 550, 551, 64]), (4, 213, 0, 26, [565, 566, 567, 64]), (4, 216, 0, 34, [573, 460, 461, 64]), (4, 219, 0, 28, [582, 583, 584, 64]), (4, 222, 0, 42, [586, 587, 588, 64]), (4, 225, 0, 43, [591, 592, 593, 64]), (4, 229, 0, 29, [600, 601, 602, 64]), (4, 232, 1, 27, [608, 430, 64]), (4, 238, 0, 40, [609, 610, 611, 64]), (4, 244, 0, 21, [623, 624, 625, 64]), (4, 247, 0, 22, [628, 629, 630, 64]), (4, 250, 0, 39, [640, 641, 642, 64]), (4, 253, 0, 23, [352, 353, 354, 64]), (0, 1, 4, 0, [91, 78, 79]), (0, 13, 6, 0, [92, 93, 66, 94]), (0, 23, 5, 0, [268, 269, 66, 270]), (0, 26, 7, 0, [271, 273, 272, 71]), (1, 1, 4, 0, [108, 78, 79]), (1, 7, 6, 0, [109, 93, 66, 94]), (1, 19, 1, 178, [246, 247, 70]), (1, 25, 0, 5, [599, 300, 301, 67]), (1, 31, 5, 0, [278, 269, 66, 270]), (1, 34, 7, 0, [279, 273, 272, 71]), (2, 3, 4, 0, [85, 78, 79]), (2, 32, 3, 0, [88, 89, 65]), (2, 47, 3, 4, [105, 106, 67]), (2, 72, 0, 3, [264, 265, 266, 65]), (2, 76, 0, 12, [274, 275, 276, 67]), (2, 79, 0, 15, [387, 285, 286, 64]), (2, 83, 2, 92, [356, 236, 63]), (2, 87, 0, 5, [299, 300, 301, 67]), (2, 91, 0, 9, [307, 308, 309, 67]), (2, 95, 0, 10, [242, 243, 244, 67]), (2, 98, 0, 18, [627, 296, 297, 64]), (2, 102, 0, 1, [361, 362, 363, 65]), (2, 106, 0, 25, [377, 358, 359, 64]), (2, 109, 0, 23, [399, 353, 354, 64]), (2, 112, 0, 16, [400, 384, 385, 64]), (2, 115, 1, 33, [440, 441, 64]), (2, 118, 0, 32, [443, 445, 10, 64]), (2, 122, 1, 27, [429, 430, 64]), (2, 125, 0, 34, [459, 460, 461, 64]), (2, 128, 0, 6, [369, 370, 371, 67]), (2, 132, 0, 36, [378, 366, 367, 64]), (2, 135, 0, 37, [614, 374, 375, 64]), (2, 138, 0, 26, [613, 566, 567, 64]), (2, 141, 0, 7, [417, 418, 419, 67]), (2, 145, 6, 0, [590, 93, 66, 94]), (2, 150, 0, 8, [595, 596, 597, 67]), (2, 153, 0, 24, [401, 402, 403, 64]), (2, 156, 0, 45, [405, 406, 407, 64]), (2, 159, 0, 46, [409, 411, 5, 64]), (2, 162, 0, 47, [432, 434, 9, 64]), (2, 165, 0, 17, [413, 415, 6, 64]), (2, 168, 0, 48, [421, 423, 7, 64]), (2, 171, 0, 49, [425, 427, 8, 64]), (2, 174, 0, 52, [553, 555, 16, 64]), (3, 3, 4, 0, [184, 78, 79]), (3, 20, 3, 0, [186, 89, 65]), (3, 33, 0, 2, [497, 325, 326, 65]), (3, 37, 0, 59, [510, 512, 12, 68]), (3, 41, 0, 57, [520, 522, 14, 68]), (3, 45, 0, 58, [514, 516, 13, 68]), (3, 48, 0, 56, [524, 526, 15, 68]), (3, 51, 0, 1, [518, 362, 363, 65]), (3, 55, 2, 92, [519, 236, 63]), (7, 9, 3, 60, [74, 75, 63]), (7, 12, 3, 100, [646, 647, 69]), (7, 13, 0, 61, [231, 232, 233, 63]), (7, 17, 0, 121, [732, 733, 734, 69]), (7, 18, 0, 62, [288, 289, 290, 63]), (7, 22, 0, 123, [739, 740, 741, 69]), (7, 23, 0, 63, [316, 317, 318, 63]), (7, 27, 0, 127, [759, 760, 761, 69]), (7, 28, 0, 64, [320, 321, 322, 63]), (7, 31, 0, 128, [763, 764, 765, 69]), (7, 32, 0, 65, [328, 329, 330, 63]), (7, 36, 0, 129, [767, 768, 769, 69]), (7, 37, 0, 66, [332, 333, 334, 63]), (7, 41, 0, 130, [771, 772, 773, 69]), (7, 42, 0, 67, [344, 345, 346, 63]), (7, 45, 0, 131, [783, 784, 785, 69]), (7, 46, 0, 68, [379, 380, 381, 63]), (7, 50, 0, 133, [795, 796, 797, 69]), (7, 51, 0, 69, [391, 392, 393, 63]), (7, 55, 0, 144, [847, 848, 849, 69]), (7, 56, 0, 70, [447, 448, 449, 63]), (7, 59, 0, 146, [859, 860, 861, 69]), (7, 60, 0, 71, [463, 464, 465, 63]), (7, 64, 0, 147, [867, 868, 869, 69]), (7, 65, 0, 72, [473, 474, 475, 63]), (7, 68, 0, 149, [871, 872, 873, 69]), (7, 69, 0, 73, [481, 482, 483, 63]), (7, 72, 0, 151, [879, 880, 881, 69]), (7, 73, 0, 74, [489, 490, 491, 63]), (7, 77, 0, 152, [887, 888, 889, 69]), (7, 78, 0, 75, [498, 499, 500, 63]), (7, 81, 0, 153, [891, 892, 893, 69]), (7, 82, 0, 76, [502, 503, 504, 63]), (7, 85, 0, 159, [895, 896, 897, 69]), (7, 86, 0, 77, [529, 530, 531, 63]), (7, 89, 0, 117, [684, 685, 686, 69]), (7, 90, 0, 78, [533, 534, 535, 63]), (7, 93, 0, 119, [692, 693, 694, 69]), (7, 94, 0, 79, [537, 538, 539, 63]), (7, 97, 0, 120, [720, 721, 722, 69]), (7, 98, 0, 80, [541, 542, 543, 63]), (7, 101, 0, 142, [815, 816, 817, 69]), (7, 102, 0, 81, [545, 546, 547, 63]), (7, 105, 0, 161, [919, 920, 921, 69]), (7, 106, 0, 82, [557, 558, 559, 63]), (7, 109, 0, 162, [927, 928, 929, 69]), (7, 110, 0, 83, [561, 562, 563, 63]), (7, 113, 0, 165, [931, 932, 933, 69]), (7, 114, 0, 84, [569, 570, 571, 63]), (7, 117, 0, 166, [943, 944, 945, 69]), (7, 118, 0, 85, [574, 575, 576, 63]), (7, 121, 0, 167, [947, 948, 949, 69]), (7, 122, 0, 86, [578, 579, 580, 63]), (7, 125, 0, 171, [951, 952, 953, 69]), (7, 126, 0, 87, [604, 605, 606, 63]), (7, 129, 0, 173, [967, 968, 969, 69]), (7, 130, 0, 88, [615, 616, 617, 63]), (7, 133, 0, 175, [975, 976, 977, 69]), (7, 134, 0, 89, [619, 620, 621, 63]), (7, 137, 0, 125, [747, 748, 749, 69]), (7, 138, 0, 90, [632, 633, 634, 63]), (7, 141, 0, 126, [755, 756, 757, 69]), (7, 142, 0, 91, [636, 637, 638, 63]), (7, 145, 0, 177, [983, 984, 985, 69]), (5, 1, 4, 0, [649, 78, 79]), (5, 19, 0, 102, [708, 710, 21, 69]), (5, 23, 1, 101, [736, 737, 69]), (5, 27, 0, 109, [716, 718, 23, 69]), (5, 35, 0, 113, [696, 698, 18, 69]), (5, 39, 0, 115, [728, 730, 25, 69]), (5, 42, 0, 114, [688, 690, 17, 69]), (5, 45, 0, 134, [704, 706, 20, 69]), (5, 53, 0, 118, [700, 702, 19, 69]), (5, 56, 0, 116, [724, 726, 24, 69]), (5, 59, 0, 122, [743, 745, 26, 69]), (5, 62, 0, 124, [751, 753, 27, 69]), (5, 65, 0, 104, [775, 777, 28, 69]), (5, 69, 0, 105, [779, 781, 29, 69]), (5, 72, 0, 107, [787, 789, 30, 69]), (5, 75, 0, 108, [791, 793, 31, 69]), (5, 78, 0, 112, [807, 809, 34, 69]), (5, 82, 0, 103, [799, 801, 32, 69]), (5, 85, 0, 135, [803, 805, 33, 69]), (5, 88, 0, 132, [811, 813, 35, 69]), (5, 91, 0, 110, [712, 714, 22, 69]), (5, 94, 0, 139, [839, 841, 41, 69]), (5, 97, 0, 137, [827, 829, 38, 69]), (5, 101, 0, 138, [831, 833, 39, 69]), (5, 104, 0, 140, [835, 837, 40, 69]), (5, 107, 0, 136, [843, 845, 42, 69]), (5, 110, 0, 106, [819, 821, 36, 69]), (5, 113, 0, 141, [823, 825, 37, 69]), (5, 117, 0, 143, [851, 853, 43, 69]), (5, 120, 0, 111, [855, 857, 44, 69]), (5, 124, 0, 145, [863, 865, 45, 69]), (5, 127, 0, 148, [875, 877, 46, 69]), (5, 130, 0, 150, [883, 885, 47, 69]), (5, 139, 0, 154, [911, 913, 51, 69]), (5, 145, 0, 156, [907, 909, 50, 69]), (5, 151, 0, 155, [915, 917, 52, 69]), (5, 160, 0, 157, [903, 905, 49, 69]), (5, 164, 0, 158, [899, 901, 48, 69]), (5, 167, 0, 160, [923, 925, 53, 69]), (5, 170, 0, 163, [939, 941, 55, 69]), (5, 173, 0, 164, [935, 937, 54, 69]), (5, 176, 0, 170, [955, 957, 56, 69]), (5, 180, 0, 169, [959, 961, 57, 69]), (5, 183, 0, 168, [963, 965, 58, 69]), (5, 186, 0, 172, [971, 973, 59, 69]), (5, 189, 0, 174, [979, 981, 60, 69]), (5, 192, 0, 176, [987, 989, 61, 69])]
def ri_CL : List (Nat × Nat × Nat × Nat × Nat × Nat) := [(7, 7, 4, 72, 73, 63), (4, 7, 2, 80, 81, 64), (2, 30, 0, 86, 87, 65), (2, 45, 1, 103, 104, 67), (4, 37, 3, 179, 180, 68), (3, 18, 0, 185, 87, 65), (7, 10, 5, 644, 645, 69)]
def ri_LL : List (Nat × Nat × Int × Nat) := [(6, 314, 6148914691236517205, 249), (6, 316, 3689348814741910323, 250), (6, 318, 1085102592571150095, 251), (1, 29, -1, 311)]
/-- constants of ints -/
def ri_DL : List (Nat × Nat × Int × Nat) := []
/-- calls of a class's private method out of its nest mates -/
def ri_nl : List (String × Nat) := [(RX2, 83), (RX3, 55)]
/-- the words that a link stands for, by its kind: 0 an object's method, 1 a static one, 2 a static one of a nest mate, 3 a constructor, 4 Object's, 5 Math.min, 6 Math.max, 7 System.arraycopy -/
def ri_mw (e : Nat × Nat × Nat × Nat × List Nat) : List Jvm.Cond := match e.2.2.1 with
  | 0 => [.methodLink (ri_on e.1) e.2.1 (ri_nm e.2.2.2.1), .instanceMethod (ri_nm e.2.2.2.1), .selects (ri_nm e.2.2.2.1).cls (ri_nm e.2.2.2.1) (ri_nm e.2.2.2.1), .initialized (ri_nm e.2.2.2.1).cls]
  | 1 => [.methodLink (ri_on e.1) e.2.1 (ri_nm e.2.2.2.1), .static (ri_nm e.2.2.2.1), .initialized (ri_nm e.2.2.2.1).cls]
  | 2 => [.methodLinkNest (ri_on e.1) e.2.1 (ri_nm e.2.2.2.1) RX4, .static (ri_nm e.2.2.2.1), .initialized (ri_nm e.2.2.2.1).cls]
  | 3 => [.methodLink (ri_on e.1) e.2.1 (ri_nm e.2.2.2.1), .instanceMethod (ri_nm e.2.2.2.1), .initialized (ri_nm e.2.2.2.1).cls]
  | 4 => [.methodLink (ri_on e.1) e.2.1 objectInit, .instanceMethod objectInit, .code objectInit ⟨#[0xb1]⟩ 1 none]
  | 5 => [.methodLink (ri_on e.1) e.2.1 Lib.Math.min.name, .static Lib.Math.min.name, .initialized "java/lang/Math", .code Lib.Math.min.name Lib.Math.min.code 2 (some .int)]
  | 6 => [.methodLink (ri_on e.1) e.2.1 Lib.Math.max.name, .static Lib.Math.max.name, .initialized "java/lang/Math", .code Lib.Math.max.name Lib.Math.max.code 2 (some .int)]
  | _ => [.methodLink (ri_on e.1) e.2.1 arraycopyName, .native arraycopyName, .static arraycopyName, .initialized "java/lang/System"]
def ri_cls (ci : Nat) : vw_C := vwCl.getD ci (RX0, TX0, 0)
def ri_cw (e : Nat × Nat × Nat × Nat × Nat × Nat) : List Jvm.Cond := [.classLink (ri_on e.1) e.2.1 (ri_cls e.2.2.1).1, .instantiable (ri_cls e.2.2.1).1 (ri_cls e.2.2.1).2.2, .initialized (ri_cls e.2.2.1).1]
def ri_fw (e : Nat × Nat × Nat × Nat × Nat) : Jvm.Cond := .fieldLink (ri_on e.1) e.2.1 ((ri_cls e.2.2.1).2.1 e.2.2.2.1).1 ((ri_cls e.2.2.1).2.1 e.2.2.2.1).2.1 ((ri_cls e.2.2.1).2.1 e.2.2.2.1).2.2.1
def ri_lw (e : Nat × Nat × Int × Nat) : Jvm.Cond := .constantLong (ri_on e.1) e.2.1 (Int64.ofInt e.2.2.1)
def ri_dw (e : Nat × Nat × Int × Nat) : Jvm.Cond := .constant (ri_on e.1) e.2.1 (Int32.ofInt e.2.2.1)
set_option maxRecDepth 100000 in
theorem ri_ML_ok : ∀ e ∈ ri_ML, e.2.2.2.2.map (fun i => lw_tbl[i]?) = (ri_mw e).map some := by decide +kernel
set_option maxRecDepth 100000 in
theorem ri_ML_good : ∀ e ∈ ri_ML, (ri_mw e).all (fun w => goodWord w || decide (e.2.2.1 = 2)) = true := by decide +kernel
set_option maxRecDepth 100000 in
theorem ri_ML_nest : ∀ e ∈ ri_ML, e.2.2.1 = 2 → (ri_on e.1, e.2.1) ∈ ri_nl := by decide +kernel
set_option maxRecDepth 100000 in
theorem ri_ML_nest2 : ∀ e ∈ ri_ML, e.2.2.1 = 2 → (ri_mw e).tail.all goodWord = true ∧ ri_nm e.2.2.2.1 = yX4_isIn := by decide +kernel
set_option maxRecDepth 100000 in
theorem ri_ML_init : ∀ e ∈ ri_ML, e.2.2.1 = 3 → (ri_nm e.2.2.2.1).name = "<init>" ∧ ri_rt e.2.2.2.1 = none := by decide +kernel
set_option maxRecDepth 100000 in
theorem ri_CL_ok : ∀ e ∈ ri_CL, [lw_tbl[e.2.2.2.1]?, lw_tbl[e.2.2.2.2.1]?, lw_tbl[e.2.2.2.2.2]?] = (ri_cw e).map some ∧ (ri_cw e).all goodWord = true ∧ e.2.2.1 < 6 := by decide +kernel
set_option maxRecDepth 100000 in
theorem ri_FL_ok : ∀ e ∈ ri_FL, lw_tbl[e.2.2.2.2]? = some (ri_fw e) ∧ goodWord (ri_fw e) = true ∧ e.2.2.1 < 6 ∧ e.2.2.2.1 < (ri_cls e.2.2.1).2.2 := by decide +kernel
set_option maxRecDepth 100000 in
theorem ri_LL_ok : ∀ e ∈ ri_LL, lw_tbl[e.2.2.2]? = some (ri_lw e) ∧ goodWord (ri_lw e) = true := by decide +kernel
set_option maxRecDepth 100000 in
theorem ri_DL_ok : ∀ e ∈ ri_DL, lw_tbl[e.2.2.2]? = some (ri_dw e) ∧ goodWord (ri_dw e) = true := by decide +kernel
set_option maxRecDepth 100000 in
theorem ri_M_ok : ∀ r ∈ ri_M, plainName r.1.cls = true ∧ (r.1.cls ≠ "java/lang/invoke/MethodHandle" ∧ r.1.cls ≠ "java/lang/invoke/VarHandle" ∧ (parseMethodDescriptor r.1.desc).map (fun d => d.parameters.length) = some r.2.2.2.2.2.2) ∧ r.1.cls = ri_on r.2.2.2.2.1 ∧ r.2.2.1 ≤ 15 := by decide +kernel
/-- the words that go with every method of the system -/
def ri_WS : List Jvm.Cond := lw_tbl.filter goodWord
set_option maxRecDepth 100000 in
theorem ri_lays : ∀ ci, ci < 6 → (u_ws (ri_cls ci).1 (ri_cls ci).2.1 (ri_cls ci).2.2).all (fun w => decide (w ∈ lw_tbl) && goodWord w) = true := by decide +kernel
set_option maxRecDepth 100000 in
theorem ri_arrs : [Jvm.Cond.arrayClass .int, .arrayClass .long, .classLink RX4 7 RX2].all (fun w => decide (w ∈ lw_tbl) && goodWord w) = true := by decide +kernel
set_option maxRecDepth 100000 in
theorem ri_over : Jvm.Cond.arrayOver (.object RX2) ∈ lw_tbl := by decide +kernel
set_option maxRecDepth 100000 in
theorem ri_nests : ∀ q ∈ ri_nl, Jvm.Cond.methodLinkNest q.1 q.2 yX4_isIn RX4 ∈ lw_tbl := by decide +kernel
set_option maxRecDepth 100000 in
theorem ri_cd0 : lw_tbl[90]? = some (Jvm.Cond.code yX0_init cX0_init 3 none) := by rfl
set_option maxRecDepth 100000 in
theorem ri_cd1 : lw_tbl[364]? = some (Jvm.Cond.code yX0_get cX0_get 4 (some .int)) := by rfl
set_option maxRecDepth 100000 in
theorem ri_cd2 : lw_tbl[327]? = some (Jvm.Cond.code yX0_set cX0_set 5 none) := by rfl
set_option maxRecDepth 100000 in
theorem ri_cd3 : lw_tbl[267]? = some (Jvm.Cond.code yX0_copyFrom cX0_copyFrom 3 none) := by rfl
set_option maxRecDepth 100000 in
theorem ri_cd4 : lw_tbl[107]? = some (Jvm.Cond.code yX1_init cX1_init 2 none) := by rfl
set_option maxRecDepth 100000 in
theorem ri_cd5 : lw_tbl[302]? = some (Jvm.Cond.code yX1_has cX1_has 3 (some .boolean)) := by rfl
set_option maxRecDepth 100000 in
theorem ri_cd6 : lw_tbl[372]? = some (Jvm.Cond.code yX1_size cX1_size 2 (some .int)) := by rfl
set_option maxRecDepth 100000 in
theorem ri_cd7 : lw_tbl[420]? = some (Jvm.Cond.code yX1_sizeWithin cX1_sizeWithin 6 (some .int)) := by rfl
set_option maxRecDepth 100000 in
theorem ri_cd8 : lw_tbl[598]? = some (Jvm.Cond.code yX1_gapsWithin cX1_gapsWithin 8 (some .int)) := by rfl
set_option maxRecDepth 100000 in
theorem ri_cd9 : lw_tbl[310]? = some (Jvm.Cond.code yX1_set cX1_set 6 none) := by rfl
set_option maxRecDepth 100000 in
theorem ri_cd10 : lw_tbl[245]? = some (Jvm.Cond.code yX1_sizeOfAll cX1_sizeOfAll 3 (some .int)) := by rfl
set_option maxRecDepth 100000 in
theorem ri_cd11 : lw_tbl[283]? = some (Jvm.Cond.code yX1_clear cX1_clear 2 none) := by rfl
set_option maxRecDepth 100000 in
theorem ri_cd12 : lw_tbl[277]? = some (Jvm.Cond.code yX1_copyFrom cX1_copyFrom 3 none) := by rfl
set_option maxRecDepth 100000 in
theorem ri_cd13 : lw_tbl[84]? = some (Jvm.Cond.code yX2_init cX2_init 1 none) := by rfl
set_option maxRecDepth 100000 in
theorem ri_cd14 : lw_tbl[263]? = some (Jvm.Cond.code yX2_copyFrom cX2_copyFrom 2 none) := by rfl
set_option maxRecDepth 100000 in
theorem ri_cd15 : lw_tbl[287]? = some (Jvm.Cond.code yX2_slots cX2_slots 1 (some .int)) := by rfl
set_option maxRecDepth 100000 in
theorem ri_cd16 : lw_tbl[386]? = some (Jvm.Cond.code yX2_knowsSlot cX2_knowsSlot 2 (some .boolean)) := by rfl
set_option maxRecDepth 100000 in
theorem ri_cd17 : lw_tbl[416]? = some (Jvm.Cond.code yX2_firstOfDayOf cX2_firstOfDayOf 2 (some .int)) := by rfl
set_option maxRecDepth 100000 in
theorem ri_cd18 : lw_tbl[298]? = some (Jvm.Cond.code yX2_isHoliday cX2_isHoliday 2 (some .boolean)) := by rfl
set_option maxRecDepth 100000 in
theorem ri_cd19 : lw_tbl[306]? = some (Jvm.Cond.code yX2_setHoliday cX2_setHoliday 3 none) := by rfl
set_option maxRecDepth 100000 in
theorem ri_cd20 : lw_tbl[315]? = some (Jvm.Cond.code yX2_allHolidays cX2_allHolidays 1 (some .int)) := by rfl
set_option maxRecDepth 100000 in
theorem ri_cd21 : lw_tbl[626]? = some (Jvm.Cond.code yX2_openBefore cX2_openBefore 4 (some .int)) := by rfl
set_option maxRecDepth 100000 in
theorem ri_cd22 : lw_tbl[631]? = some (Jvm.Cond.code yX2_dayAfter cX2_dayAfter 2 (some .int)) := by rfl
set_option maxRecDepth 100000 in
theorem ri_cd23 : lw_tbl[355]? = some (Jvm.Cond.code yX2_knowsCourse cX2_knowsCourse 2 (some .boolean)) := by rfl
set_option maxRecDepth 100000 in
theorem ri_cd24 : lw_tbl[404]? = some (Jvm.Cond.code yX2_knowsRoom cX2_knowsRoom 2 (some .boolean)) := by rfl
set_option maxRecDepth 100000 in
theorem ri_cd25 : lw_tbl[360]? = some (Jvm.Cond.code yX2_fact cX2_fact 3 (some .int)) := by rfl
set_option maxRecDepth 100000 in
theorem ri_cd26 : lw_tbl[568]? = some (Jvm.Cond.code yX2_isFor cX2_isFor 5 (some .boolean)) := by rfl
set_option maxRecDepth 100000 in
theorem ri_cd27 : lw_tbl[431]? = some (Jvm.Cond.code yX2_rowOfHalf cX2_rowOfHalf 2 (some .int)) := by rfl
set_option maxRecDepth 100000 in
theorem ri_cd28 : lw_tbl[585]? = some (Jvm.Cond.code yX2_coursesOfTeacher cX2_coursesOfTeacher 4 (some .int)) := by rfl
set_option maxRecDepth 100000 in
theorem ri_cd29 : lw_tbl[603]? = some (Jvm.Cond.code yX2_lessonsOfTeacher cX2_lessonsOfTeacher 4 (some .int)) := by rfl
set_option maxRecDepth 100000 in
theorem ri_cd30 : lw_tbl[454]? = some (Jvm.Cond.code yX2_knowsLesson cX2_knowsLesson 3 (some .boolean)) := by rfl
set_option maxRecDepth 100000 in
theorem ri_cd31 : lw_tbl[439]? = some (Jvm.Cond.code yX2_setLesson cX2_setLesson 5 none) := by rfl
set_option maxRecDepth 100000 in
theorem ri_cd32 : lw_tbl[446]? = some (Jvm.Cond.code yX2_setHalves cX2_setHalves 6 none) := by rfl
set_option maxRecDepth 100000 in
theorem ri_cd33 : lw_tbl[442]? = some (Jvm.Cond.code yX2_rowInRoom cX2_rowInRoom 2 (some .int)) := by rfl
set_option maxRecDepth 100000 in
theorem ri_cd34 : lw_tbl[462]? = some (Jvm.Cond.code yX2_isInRoom cX2_isInRoom 4 (some .boolean)) := by rfl
set_option maxRecDepth 100000 in
theorem ri_cd35 : lw_tbl[458]? = some (Jvm.Cond.code yX2_roomOf cX2_roomOf 4 (some .int)) := by rfl
set_option maxRecDepth 100000 in
theorem ri_cd36 : lw_tbl[368]? = some (Jvm.Cond.code yX2_placed cX2_placed 2 (some .int)) := by rfl
set_option maxRecDepth 100000 in
theorem ri_cd37 : lw_tbl[376]? = some (Jvm.Cond.code yX2_missing cX2_missing 2 (some .int)) := by rfl
set_option maxRecDepth 100000 in
theorem ri_cd38 : lw_tbl[241]? = some (Jvm.Cond.code yX2_allPlaced cX2_allPlaced 1 (some .int)) := by rfl
set_option maxRecDepth 100000 in
theorem ri_cd39 : lw_tbl[643]? = some (Jvm.Cond.code yX2_allMissing cX2_allMissing 3 (some .int)) := by rfl
set_option maxRecDepth 100000 in
theorem ri_cd40 : lw_tbl[612]? = some (Jvm.Cond.code yX2_missingOfHalf cX2_missingOfHalf 5 (some .int)) := by rfl
set_option maxRecDepth 100000 in
theorem ri_cd41 : lw_tbl[480]? = some (Jvm.Cond.code yX2_lessonsIn cX2_lessonsIn 4 (some .int)) := by rfl
set_option maxRecDepth 100000 in
theorem ri_cd42 : lw_tbl[589]? = some (Jvm.Cond.code yX2_mostOnADay cX2_mostOnADay 4 (some .int)) := by rfl
set_option maxRecDepth 100000 in
theorem ri_cd43 : lw_tbl[594]? = some (Jvm.Cond.code yX2_windows cX2_windows 5 (some .int)) := by rfl
set_option maxRecDepth 100000 in
theorem ri_cd44 : lw_tbl[398]? = some (Jvm.Cond.code yX2_errorOfPlacing cX2_errorOfPlacing 4 (some .int)) := by rfl
set_option maxRecDepth 100000 in
theorem ri_cd45 : lw_tbl[408]? = some (Jvm.Cond.code yX2_firstReason cX2_firstReason 5 (some .int)) := by rfl
set_option maxRecDepth 100000 in
theorem ri_cd46 : lw_tbl[412]? = some (Jvm.Cond.code yX2_reasonOfSlot cX2_reasonOfSlot 5 (some .int)) := by rfl
set_option maxRecDepth 100000 in
theorem ri_cd47 : lw_tbl[435]? = some (Jvm.Cond.code yX2_reasonOfRoom cX2_reasonOfRoom 5 (some .int)) := by rfl
set_option maxRecDepth 100000 in
theorem ri_cd48 : lw_tbl[424]? = some (Jvm.Cond.code yX2_hasBusyGroup cX2_hasBusyGroup 4 (some .boolean)) := by rfl
set_option maxRecDepth 100000 in
theorem ri_cd49 : lw_tbl[428]? = some (Jvm.Cond.code yX2_isBusy cX2_isBusy 5 (some .boolean)) := by rfl
set_option maxRecDepth 100000 in
theorem ri_cd50 : lw_tbl[488]? = some (Jvm.Cond.code yX2_lowestFreeRoom cX2_lowestFreeRoom 4 (some .int)) := by rfl
set_option maxRecDepth 100000 in
theorem ri_cd51 : lw_tbl[552]? = some (Jvm.Cond.code yX2_freePlaces cX2_freePlaces 4 (some .int)) := by rfl
set_option maxRecDepth 100000 in
theorem ri_cd52 : lw_tbl[556]? = some (Jvm.Cond.code yX2_freeRooms cX2_freeRooms 5 (some .int)) := by rfl
set_option maxRecDepth 100000 in
theorem ri_cd53 : lw_tbl[183]? = some (Jvm.Cond.code yX3_init cX3_init 1 none) := by rfl
set_option maxRecDepth 100000 in
theorem ri_cd54 : lw_tbl[496]? = some (Jvm.Cond.code yX3_append cX3_append 2 none) := by rfl
set_option maxRecDepth 100000 in
theorem ri_cd55 : lw_tbl[509]? = some (Jvm.Cond.code yX3_parse cX3_parse 5 (some .int)) := by rfl
set_option maxRecDepth 100000 in
theorem ri_cd56 : lw_tbl[527]? = some (Jvm.Cond.code yX3_putPlacing cX3_putPlacing 4 none) := by rfl
set_option maxRecDepth 100000 in
theorem ri_cd57 : lw_tbl[523]? = some (Jvm.Cond.code yX3_reads cX3_reads 2 (some .boolean)) := by rfl
set_option maxRecDepth 100000 in
theorem ri_cd58 : lw_tbl[517]? = some (Jvm.Cond.code yX3_readDigit cX3_readDigit 2 (some .int)) := by rfl
set_option maxRecDepth 100000 in
theorem ri_cd59 : lw_tbl[513]? = some (Jvm.Cond.code yX3_readNumber cX3_readNumber 3 (some .int)) := by rfl
set_option maxRecDepth 100000 in
theorem ri_cd60 : lw_tbl[76]? = some (Jvm.Cond.code yX4_init cX4_init 2 none) := by rfl
set_option maxRecDepth 100000 in
theorem ri_cd61 : lw_tbl[234]? = some (Jvm.Cond.code yX4_setCycle cX4_setCycle 3 (some .int)) := by rfl
set_option maxRecDepth 100000 in
theorem ri_cd62 : lw_tbl[291]? = some (Jvm.Cond.code yX4_holiday cX4_holiday 3 (some .int)) := by rfl
set_option maxRecDepth 100000 in
theorem ri_cd63 : lw_tbl[319]? = some (Jvm.Cond.code yX4_addGroup cX4_addGroup 2 (some .int)) := by rfl
set_option maxRecDepth 100000 in
theorem ri_cd64 : lw_tbl[323]? = some (Jvm.Cond.code yX4_addTeacher cX4_addTeacher 4 (some .int)) := by rfl
set_option maxRecDepth 100000 in
theorem ri_cd65 : lw_tbl[331]? = some (Jvm.Cond.code yX4_addRoom cX4_addRoom 3 (some .int)) := by rfl
set_option maxRecDepth 100000 in
theorem ri_cd66 : lw_tbl[335]? = some (Jvm.Cond.code yX4_addCourse cX4_addCourse 7 (some .int)) := by rfl
set_option maxRecDepth 100000 in
theorem ri_cd67 : lw_tbl[347]? = some (Jvm.Cond.code yX4_join cX4_join 3 (some .int)) := by rfl
set_option maxRecDepth 100000 in
theorem ri_cd68 : lw_tbl[382]? = some (Jvm.Cond.code yX4_bar cX4_bar 4 (some .int)) := by rfl
set_option maxRecDepth 100000 in
theorem ri_cd69 : lw_tbl[394]? = some (Jvm.Cond.code yX4_place cX4_place 5 (some .int)) := by rfl
set_option maxRecDepth 100000 in
theorem ri_cd70 : lw_tbl[450]? = some (Jvm.Cond.code yX4_takeAway cX4_takeAway 3 (some .int)) := by rfl
set_option maxRecDepth 100000 in
theorem ri_cd71 : lw_tbl[466]? = some (Jvm.Cond.code yX4_move cX4_move 6 (some .int)) := by rfl
set_option maxRecDepth 100000 in
theorem ri_cd72 : lw_tbl[476]? = some (Jvm.Cond.code yX4_swap cX4_swap 7 (some .int)) := by rfl
set_option maxRecDepth 100000 in
theorem ri_cd73 : lw_tbl[484]? = some (Jvm.Cond.code yX4_fill cX4_fill 5 (some .int)) := by rfl
set_option maxRecDepth 100000 in
theorem ri_cd74 : lw_tbl[492]? = some (Jvm.Cond.code yX4_type cX4_type 2 (some .int)) := by rfl
set_option maxRecDepth 100000 in
theorem ri_cd75 : lw_tbl[501]? = some (Jvm.Cond.code yX4_clearText cX4_clearText 2 (some .int)) := by rfl
set_option maxRecDepth 100000 in
theorem ri_cd76 : lw_tbl[505]? = some (Jvm.Cond.code yX4_readPlacings cX4_readPlacings 7 (some .int)) := by rfl
set_option maxRecDepth 100000 in
theorem ri_cd77 : lw_tbl[532]? = some (Jvm.Cond.code yX4_undo cX4_undo 1 (some .int)) := by rfl
set_option maxRecDepth 100000 in
theorem ri_cd78 : lw_tbl[536]? = some (Jvm.Cond.code yX4_keep cX4_keep 1 (some .int)) := by rfl
set_option maxRecDepth 100000 in
theorem ri_cd79 : lw_tbl[540]? = some (Jvm.Cond.code yX4_restore cX4_restore 1 (some .int)) := by rfl
set_option maxRecDepth 100000 in
theorem ri_cd80 : lw_tbl[544]? = some (Jvm.Cond.code yX4_reason cX4_reason 4 (some .int)) := by rfl
set_option maxRecDepth 100000 in
theorem ri_cd81 : lw_tbl[548]? = some (Jvm.Cond.code yX4_course cX4_course 3 (some .int)) := by rfl
set_option maxRecDepth 100000 in
theorem ri_cd82 : lw_tbl[560]? = some (Jvm.Cond.code yX4_lessonAt cX4_lessonAt 5 (some .int)) := by rfl
set_option maxRecDepth 100000 in
theorem ri_cd83 : lw_tbl[564]? = some (Jvm.Cond.code yX4_groupAt cX4_groupAt 5 (some .int)) := by rfl
set_option maxRecDepth 100000 in
theorem ri_cd84 : lw_tbl[572]? = some (Jvm.Cond.code yX4_roomAt cX4_roomAt 4 (some .int)) := by rfl
set_option maxRecDepth 100000 in
theorem ri_cd85 : lw_tbl[577]? = some (Jvm.Cond.code yX4_teacherAt cX4_teacherAt 4 (some .int)) := by rfl
set_option maxRecDepth 100000 in
theorem ri_cd86 : lw_tbl[581]? = some (Jvm.Cond.code yX4_teacher cX4_teacher 3 (some .int)) := by rfl
set_option maxRecDepth 100000 in
theorem ri_cd87 : lw_tbl[607]? = some (Jvm.Cond.code yX4_group cX4_group 5 (some .int)) := by rfl
set_option maxRecDepth 100000 in
theorem ri_cd88 : lw_tbl[618]? = some (Jvm.Cond.code yX4_room cX4_room 3 (some .int)) := by rfl
set_option maxRecDepth 100000 in
theorem ri_cd89 : lw_tbl[622]? = some (Jvm.Cond.code yX4_dayOf cX4_dayOf 2 (some .int)) := by rfl
set_option maxRecDepth 100000 in
theorem ri_cd90 : lw_tbl[635]? = some (Jvm.Cond.code yX4_nextDate cX4_nextDate 5 (some .int)) := by rfl
set_option maxRecDepth 100000 in
theorem ri_cd91 : lw_tbl[639]? = some (Jvm.Cond.code yX4_count cX4_count 2 (some .int)) := by rfl
set_option maxRecDepth 100000 in
theorem ri_cd92 : lw_tbl[237]? = some (Jvm.Cond.code yX4_isIn cX4_isIn 3 (some .boolean)) := by rfl
set_option maxRecDepth 100000 in
theorem ri_cd93 : lw_tbl[294]? = some (Jvm.Cond.code yX4_isDate cX4_isDate 1 (some .boolean)) := by rfl
set_option maxRecDepth 100000 in
theorem ri_cd94 : lw_tbl[339]? = some (Jvm.Cond.code yX4_knowsGroup cX4_knowsGroup 2 (some .boolean)) := by rfl
set_option maxRecDepth 100000 in
theorem ri_cd95 : lw_tbl[343]? = some (Jvm.Cond.code yX4_knowsTeacher cX4_knowsTeacher 2 (some .boolean)) := by rfl
set_option maxRecDepth 100000 in
theorem ri_cd96 : lw_tbl[351]? = some (Jvm.Cond.code yX4_knowsCourse cX4_knowsCourse 2 (some .boolean)) := by rfl
set_option maxRecDepth 100000 in
theorem ri_cd97 : lw_tbl[255]? = some (Jvm.Cond.code yX4_remember cX4_remember 2 none) := by rfl
set_option maxRecDepth 100000 in
theorem ri_cd98 : lw_tbl[472]? = some (Jvm.Cond.code yX4_adoptTrial cX4_adoptTrial 1 none) := by rfl
set_option maxRecDepth 100000 in
theorem ri_cd99 : lw_tbl[259]? = some (Jvm.Cond.code yX4_historyAt cX4_historyAt 3 (some (.object RX2))) := by rfl
set_option maxRecDepth 100000 in
theorem ri_cd100 : lw_tbl[648]? = some (Jvm.Cond.code yX5_init cX5_init 1 none) := by rfl
set_option maxRecDepth 100000 in
theorem ri_cd101 : lw_tbl[738]? = some (Jvm.Cond.code yX5_isIn cX5_isIn 3 (some .boolean)) := by rfl
set_option maxRecDepth 100000 in
theorem ri_cd102 : lw_tbl[711]? = some (Jvm.Cond.code yX5_slots cX5_slots 1 (some .int)) := by rfl
set_option maxRecDepth 100000 in
theorem ri_cd103 : lw_tbl[802]? = some (Jvm.Cond.code yX5_isSlot cX5_isSlot 2 (some .boolean)) := by rfl
set_option maxRecDepth 100000 in
theorem ri_cd104 : lw_tbl[778]? = some (Jvm.Cond.code yX5_isGroup cX5_isGroup 2 (some .boolean)) := by rfl
set_option maxRecDepth 100000 in
theorem ri_cd105 : lw_tbl[782]? = some (Jvm.Cond.code yX5_isTeacher cX5_isTeacher 2 (some .boolean)) := by rfl
set_option maxRecDepth 100000 in
theorem ri_cd106 : lw_tbl[822]? = some (Jvm.Cond.code yX5_isRoom cX5_isRoom 2 (some .boolean)) := by rfl
set_option maxRecDepth 100000 in
theorem ri_cd107 : lw_tbl[790]? = some (Jvm.Cond.code yX5_isCourse cX5_isCourse 2 (some .boolean)) := by rfl
set_option maxRecDepth 100000 in
theorem ri_cd108 : lw_tbl[794]? = some (Jvm.Cond.code yX5_of cX5_of 3 (some .int)) := by rfl
set_option maxRecDepth 100000 in
theorem ri_cd109 : lw_tbl[719]? = some (Jvm.Cond.code yX5_roomOf cX5_roomOf 4 (some .int)) := by rfl
set_option maxRecDepth 100000 in
theorem ri_cd110 : lw_tbl[715]? = some (Jvm.Cond.code yX5_has cX5_has 3 (some .boolean)) := by rfl
set_option maxRecDepth 100000 in
theorem ri_cd111 : lw_tbl[858]? = some (Jvm.Cond.code yX5_puts cX5_puts 4 none) := by rfl
set_option maxRecDepth 100000 in
theorem ri_cd112 : lw_tbl[810]? = some (Jvm.Cond.code yX5_isBarred cX5_isBarred 3 (some .boolean)) := by rfl
set_option maxRecDepth 100000 in
theorem ri_cd113 : lw_tbl[699]? = some (Jvm.Cond.code yX5_keeps cX5_keeps 3 none) := by rfl
set_option maxRecDepth 100000 in
theorem ri_cd114 : lw_tbl[691]? = some (Jvm.Cond.code yX5_brings cX5_brings 3 none) := by rfl
set_option maxRecDepth 100000 in
theorem ri_cd115 : lw_tbl[731]? = some (Jvm.Cond.code yX5_recordsTrial cX5_recordsTrial 2 none) := by rfl
set_option maxRecDepth 100000 in
theorem ri_cd116 : lw_tbl[727]? = some (Jvm.Cond.code yX5_records cX5_records 1 none) := by rfl
set_option maxRecDepth 100000 in
theorem ri_cd117 : lw_tbl[687]? = some (Jvm.Cond.code yX5_undo cX5_undo 1 (some .int)) := by rfl
set_option maxRecDepth 100000 in
theorem ri_cd118 : lw_tbl[703]? = some (Jvm.Cond.code yX5_placedInAll cX5_placedInAll 3 (some .int)) := by rfl
set_option maxRecDepth 100000 in
theorem ri_cd119 : lw_tbl[695]? = some (Jvm.Cond.code yX5_keep cX5_keep 1 (some .int)) := by rfl
set_option maxRecDepth 100000 in
theorem ri_cd120 : lw_tbl[723]? = some (Jvm.Cond.code yX5_restore cX5_restore 1 (some .int)) := by rfl
set_option maxRecDepth 100000 in
theorem ri_cd121 : lw_tbl[735]? = some (Jvm.Cond.code yX5_setCycle cX5_setCycle 4 (some .int)) := by rfl
set_option maxRecDepth 100000 in
theorem ri_cd122 : lw_tbl[746]? = some (Jvm.Cond.code yX5_holidays cX5_holidays 4 (some .int)) := by rfl
set_option maxRecDepth 100000 in
theorem ri_cd123 : lw_tbl[742]? = some (Jvm.Cond.code yX5_holiday cX5_holiday 4 (some .int)) := by rfl
set_option maxRecDepth 100000 in
theorem ri_cd124 : lw_tbl[754]? = some (Jvm.Cond.code yX5_dayBy cX5_dayBy 2 (some .int)) := by rfl
set_option maxRecDepth 100000 in
theorem ri_cd125 : lw_tbl[750]? = some (Jvm.Cond.code yX5_dayOf cX5_dayOf 2 (some .int)) := by rfl
set_option maxRecDepth 100000 in
theorem ri_cd126 : lw_tbl[758]? = some (Jvm.Cond.code yX5_nextDate cX5_nextDate 4 (some .int)) := by rfl
set_option maxRecDepth 100000 in
theorem ri_cd127 : lw_tbl[762]? = some (Jvm.Cond.code yX5_addGroup cX5_addGroup 1 (some .int)) := by rfl
set_option maxRecDepth 100000 in
theorem ri_cd128 : lw_tbl[766]? = some (Jvm.Cond.code yX5_addTeacher cX5_addTeacher 4 (some .int)) := by rfl
set_option maxRecDepth 100000 in
theorem ri_cd129 : lw_tbl[770]? = some (Jvm.Cond.code yX5_addRoom cX5_addRoom 2 (some .int)) := by rfl
set_option maxRecDepth 100000 in
theorem ri_cd130 : lw_tbl[774]? = some (Jvm.Cond.code yX5_addCourse cX5_addCourse 7 (some .int)) := by rfl
set_option maxRecDepth 100000 in
theorem ri_cd131 : lw_tbl[786]? = some (Jvm.Cond.code yX5_join cX5_join 3 (some .int)) := by rfl
set_option maxRecDepth 100000 in
theorem ri_cd132 : lw_tbl[814]? = some (Jvm.Cond.code yX5_barred cX5_barred 4 (some .int)) := by rfl
set_option maxRecDepth 100000 in
theorem ri_cd133 : lw_tbl[798]? = some (Jvm.Cond.code yX5_bar cX5_bar 4 (some .int)) := by rfl
set_option maxRecDepth 100000 in
theorem ri_cd134 : lw_tbl[707]? = some (Jvm.Cond.code yX5_placed cX5_placed 4 (some .int)) := by rfl
set_option maxRecDepth 100000 in
theorem ri_cd135 : lw_tbl[806]? = some (Jvm.Cond.code yX5_courseOf cX5_courseOf 4 (some .int)) := by rfl
set_option maxRecDepth 100000 in
theorem ri_cd136 : lw_tbl[846]? = some (Jvm.Cond.code yX5_courseIn cX5_courseIn 4 (some .int)) := by rfl
set_option maxRecDepth 100000 in
theorem ri_cd137 : lw_tbl[830]? = some (Jvm.Cond.code yX5_onDay cX5_onDay 8 (some .int)) := by rfl
set_option maxRecDepth 100000 in
theorem ri_cd138 : lw_tbl[834]? = some (Jvm.Cond.code yX5_lessonsOf cX5_lessonsOf 4 (some .int)) := by rfl
set_option maxRecDepth 100000 in
theorem ri_cd139 : lw_tbl[842]? = some (Jvm.Cond.code yX5_isFor cX5_isFor 3 (some .boolean)) := by rfl
set_option maxRecDepth 100000 in
theorem ri_cd140 : lw_tbl[838]? = some (Jvm.Cond.code yX5_isBusy cX5_isBusy 7 (some .boolean)) := by rfl
set_option maxRecDepth 100000 in
theorem ri_cd141 : lw_tbl[826]? = some (Jvm.Cond.code yX5_reasonOf cX5_reasonOf 6 (some .int)) := by rfl
set_option maxRecDepth 100000 in
theorem ri_cd142 : lw_tbl[818]? = some (Jvm.Cond.code yX5_reason cX5_reason 4 (some .int)) := by rfl
set_option maxRecDepth 100000 in
theorem ri_cd143 : lw_tbl[854]? = some (Jvm.Cond.code yX5_placeError cX5_placeError 4 (some .int)) := by rfl
set_option maxRecDepth 100000 in
theorem ri_cd144 : lw_tbl[850]? = some (Jvm.Cond.code yX5_place cX5_place 5 (some .int)) := by rfl
set_option maxRecDepth 100000 in
theorem ri_cd145 : lw_tbl[866]? = some (Jvm.Cond.code yX5_isLesson cX5_isLesson 3 (some .boolean)) := by rfl
set_option maxRecDepth 100000 in
theorem ri_cd146 : lw_tbl[862]? = some (Jvm.Cond.code yX5_takeAway cX5_takeAway 3 (some .int)) := by rfl
set_option maxRecDepth 100000 in
theorem ri_cd147 : lw_tbl[870]? = some (Jvm.Cond.code yX5_move cX5_move 6 (some .int)) := by rfl
set_option maxRecDepth 100000 in
theorem ri_cd148 : lw_tbl[878]? = some (Jvm.Cond.code yX5_lessonsIn cX5_lessonsIn 4 (some .int)) := by rfl
set_option maxRecDepth 100000 in
theorem ri_cd149 : lw_tbl[874]? = some (Jvm.Cond.code yX5_swap cX5_swap 8 (some .int)) := by rfl
set_option maxRecDepth 100000 in
theorem ri_cd150 : lw_tbl[886]? = some (Jvm.Cond.code yX5_fills cX5_fills 4 (some .boolean)) := by rfl
set_option maxRecDepth 100000 in
theorem ri_cd151 : lw_tbl[882]? = some (Jvm.Cond.code yX5_fill cX5_fill 3 (some .int)) := by rfl
set_option maxRecDepth 100000 in
theorem ri_cd152 : lw_tbl[890]? = some (Jvm.Cond.code yX5_type cX5_type 2 (some .int)) := by rfl
set_option maxRecDepth 100000 in
theorem ri_cd153 : lw_tbl[894]? = some (Jvm.Cond.code yX5_clearText cX5_clearText 2 (some .int)) := by rfl
set_option maxRecDepth 100000 in
theorem ri_cd154 : lw_tbl[914]? = some (Jvm.Cond.code yX5_isHere cX5_isHere 3 (some .boolean)) := by rfl
set_option maxRecDepth 100000 in
theorem ri_cd155 : lw_tbl[918]? = some (Jvm.Cond.code yX5_passesSign cX5_passesSign 3 (some .boolean)) := by rfl
set_option maxRecDepth 100000 in
theorem ri_cd156 : lw_tbl[910]? = some (Jvm.Cond.code yX5_passesNumber cX5_passesNumber 4 (some .boolean)) := by rfl
set_option maxRecDepth 100000 in
theorem ri_cd157 : lw_tbl[906]? = some (Jvm.Cond.code yX5_passesPlacing cX5_passesPlacing 1 (some .boolean)) := by rfl
set_option maxRecDepth 100000 in
theorem ri_cd158 : lw_tbl[902]? = some (Jvm.Cond.code yX5_faultOf cX5_faultOf 1 (some .int)) := by rfl
set_option maxRecDepth 100000 in
theorem ri_cd159 : lw_tbl[898]? = some (Jvm.Cond.code yX5_readPlacings cX5_readPlacings 5 (some .int)) := by rfl
set_option maxRecDepth 100000 in
theorem ri_cd160 : lw_tbl[926]? = some (Jvm.Cond.code yX5_placesFor cX5_placesFor 5 (some .int)) := by rfl
set_option maxRecDepth 100000 in
theorem ri_cd161 : lw_tbl[922]? = some (Jvm.Cond.code yX5_course cX5_course 3 (some .int)) := by rfl
set_option maxRecDepth 100000 in
theorem ri_cd162 : lw_tbl[930]? = some (Jvm.Cond.code yX5_lessonAt cX5_lessonAt 5 (some .int)) := by rfl
set_option maxRecDepth 100000 in
theorem ri_cd163 : lw_tbl[942]? = some (Jvm.Cond.code yX5_takesPart cX5_takesPart 4 (some .boolean)) := by rfl
set_option maxRecDepth 100000 in
theorem ri_cd164 : lw_tbl[938]? = some (Jvm.Cond.code yX5_courseFor cX5_courseFor 5 (some .int)) := by rfl
set_option maxRecDepth 100000 in
theorem ri_cd165 : lw_tbl[934]? = some (Jvm.Cond.code yX5_groupAt cX5_groupAt 4 (some .int)) := by rfl
set_option maxRecDepth 100000 in
theorem ri_cd166 : lw_tbl[946]? = some (Jvm.Cond.code yX5_roomAt cX5_roomAt 3 (some .int)) := by rfl
set_option maxRecDepth 100000 in
theorem ri_cd167 : lw_tbl[950]? = some (Jvm.Cond.code yX5_teacherAt cX5_teacherAt 3 (some .int)) := by rfl
set_option maxRecDepth 100000 in
theorem ri_cd168 : lw_tbl[966]? = some (Jvm.Cond.code yX5_windows cX5_windows 9 (some .int)) := by rfl
set_option maxRecDepth 100000 in
theorem ri_cd169 : lw_tbl[962]? = some (Jvm.Cond.code yX5_mostOnDay cX5_mostOnDay 5 (some .int)) := by rfl
set_option maxRecDepth 100000 in
theorem ri_cd170 : lw_tbl[958]? = some (Jvm.Cond.code yX5_coursesOf cX5_coursesOf 5 (some .int)) := by rfl
set_option maxRecDepth 100000 in
theorem ri_cd171 : lw_tbl[954]? = some (Jvm.Cond.code yX5_teacher cX5_teacher 3 (some .int)) := by rfl
set_option maxRecDepth 100000 in
theorem ri_cd172 : lw_tbl[974]? = some (Jvm.Cond.code yX5_lessonsFor cX5_lessonsFor 6 (some .int)) := by rfl
set_option maxRecDepth 100000 in
theorem ri_cd173 : lw_tbl[970]? = some (Jvm.Cond.code yX5_group cX5_group 4 (some .int)) := by rfl
set_option maxRecDepth 100000 in
theorem ri_cd174 : lw_tbl[982]? = some (Jvm.Cond.code yX5_taken cX5_taken 4 (some .int)) := by rfl
set_option maxRecDepth 100000 in
theorem ri_cd175 : lw_tbl[978]? = some (Jvm.Cond.code yX5_room cX5_room 3 (some .int)) := by rfl
set_option maxRecDepth 100000 in
theorem ri_cd176 : lw_tbl[990]? = some (Jvm.Cond.code yX5_lessonsInAll cX5_lessonsInAll 3 (some .int)) := by rfl
set_option maxRecDepth 100000 in
theorem ri_cd177 : lw_tbl[986]? = some (Jvm.Cond.code yX5_count cX5_count 2 (some .int)) := by rfl
set_option maxRecDepth 100000 in
theorem ri_cd178 : lw_tbl[248]? = some (Jvm.Cond.code yJ13_bitCount_95d88 cJ13_bitCount_95d88 2 (some .int)) := by rfl
theorem ri_row0 : ri_row 0 = (yX0_init, cX0_init, 3, none, 0, 1, 2) := rfl
theorem ri_row1 : ri_row 1 = (yX0_get, cX0_get, 4, (some .int), 0, 0, 2) := rfl
theorem ri_row2 : ri_row 2 = (yX0_set, cX0_set, 5, none, 0, 0, 3) := rfl
theorem ri_row3 : ri_row 3 = (yX0_copyFrom, cX0_copyFrom, 3, none, 0, 1, 1) := rfl
theorem ri_row4 : ri_row 4 = (yX1_init, cX1_init, 2, none, 1, 1, 1) := rfl
theorem ri_row5 : ri_row 5 = (yX1_has, cX1_has, 3, (some .boolean), 1, 0, 2) := rfl
theorem ri_row6 : ri_row 6 = (yX1_size, cX1_size, 2, (some .int), 1, 1, 1) := rfl
theorem ri_row7 : ri_row 7 = (yX1_sizeWithin, cX1_sizeWithin, 6, (some .int), 1, 1, 3) := rfl
theorem ri_row8 : ri_row 8 = (yX1_gapsWithin, cX1_gapsWithin, 8, (some .int), 1, 1, 3) := rfl
theorem ri_row9 : ri_row 9 = (yX1_set, cX1_set, 6, none, 1, 0, 3) := rfl
theorem ri_row10 : ri_row 10 = (yX1_sizeOfAll, cX1_sizeOfAll, 3, (some .int), 1, 1, 0) := rfl
theorem ri_row11 : ri_row 11 = (yX1_clear, cX1_clear, 2, none, 1, 0, 0) := rfl
theorem ri_row12 : ri_row 12 = (yX1_copyFrom, cX1_copyFrom, 3, none, 1, 1, 1) := rfl
theorem ri_row13 : ri_row 13 = (yX2_init, cX2_init, 1, none, 2, 2, 0) := rfl
theorem ri_row14 : ri_row 14 = (yX2_copyFrom, cX2_copyFrom, 2, none, 2, 2, 1) := rfl
theorem ri_row15 : ri_row 15 = (yX2_slots, cX2_slots, 1, (some .int), 2, 0, 0) := rfl
theorem ri_row16 : ri_row 16 = (yX2_knowsSlot, cX2_knowsSlot, 2, (some .boolean), 2, 1, 1) := rfl
theorem ri_row17 : ri_row 17 = (yX2_firstOfDayOf, cX2_firstOfDayOf, 2, (some .int), 2, 0, 1) := rfl
theorem ri_row18 : ri_row 18 = (yX2_isHoliday, cX2_isHoliday, 2, (some .boolean), 2, 1, 1) := rfl
theorem ri_row19 : ri_row 19 = (yX2_setHoliday, cX2_setHoliday, 3, none, 2, 1, 2) := rfl
theorem ri_row20 : ri_row 20 = (yX2_allHolidays, cX2_allHolidays, 1, (some .int), 2, 2, 0) := rfl
theorem ri_row21 : ri_row 21 = (yX2_openBefore, cX2_openBefore, 4, (some .int), 2, 2, 1) := rfl
theorem ri_row22 : ri_row 22 = (yX2_dayAfter, cX2_dayAfter, 2, (some .int), 2, 0, 1) := rfl
theorem ri_row23 : ri_row 23 = (yX2_knowsCourse, cX2_knowsCourse, 2, (some .boolean), 2, 1, 1) := rfl
theorem ri_row24 : ri_row 24 = (yX2_knowsRoom, cX2_knowsRoom, 2, (some .boolean), 2, 1, 1) := rfl
theorem ri_row25 : ri_row 25 = (yX2_fact, cX2_fact, 3, (some .int), 2, 1, 2) := rfl
theorem ri_row26 : ri_row 26 = (yX2_isFor, cX2_isFor, 5, (some .boolean), 2, 2, 3) := rfl
theorem ri_row27 : ri_row 27 = (yX2_rowOfHalf, cX2_rowOfHalf, 2, (some .int), 2, 0, 2) := rfl
theorem ri_row28 : ri_row 28 = (yX2_coursesOfTeacher, cX2_coursesOfTeacher, 4, (some .int), 2, 2, 1) := rfl
theorem ri_row29 : ri_row 29 = (yX2_lessonsOfTeacher, cX2_lessonsOfTeacher, 4, (some .int), 2, 2, 1) := rfl
theorem ri_row30 : ri_row 30 = (yX2_knowsLesson, cX2_knowsLesson, 3, (some .boolean), 2, 2, 2) := rfl
theorem ri_row31 : ri_row 31 = (yX2_setLesson, cX2_setLesson, 5, none, 2, 2, 4) := rfl
theorem ri_row32 : ri_row 32 = (yX2_setHalves, cX2_setHalves, 6, none, 2, 1, 4) := rfl
theorem ri_row33 : ri_row 33 = (yX2_rowInRoom, cX2_rowInRoom, 2, (some .int), 2, 0, 2) := rfl
theorem ri_row34 : ri_row 34 = (yX2_isInRoom, cX2_isInRoom, 4, (some .boolean), 2, 1, 3) := rfl
theorem ri_row35 : ri_row 35 = (yX2_roomOf, cX2_roomOf, 4, (some .int), 2, 2, 2) := rfl
theorem ri_row36 : ri_row 36 = (yX2_placed, cX2_placed, 2, (some .int), 2, 2, 1) := rfl
theorem ri_row37 : ri_row 37 = (yX2_missing, cX2_missing, 2, (some .int), 2, 3, 1) := rfl
theorem ri_row38 : ri_row 38 = (yX2_allPlaced, cX2_allPlaced, 1, (some .int), 2, 2, 0) := rfl
theorem ri_row39 : ri_row 39 = (yX2_allMissing, cX2_allMissing, 3, (some .int), 2, 4, 0) := rfl
theorem ri_row40 : ri_row 40 = (yX2_missingOfHalf, cX2_missingOfHalf, 5, (some .int), 2, 4, 2) := rfl
theorem ri_row41 : ri_row 41 = (yX2_lessonsIn, cX2_lessonsIn, 4, (some .int), 2, 1, 1) := rfl
theorem ri_row42 : ri_row 42 = (yX2_mostOnADay, cX2_mostOnADay, 4, (some .int), 2, 2, 1) := rfl
theorem ri_row43 : ri_row 43 = (yX2_windows, cX2_windows, 5, (some .int), 2, 2, 2) := rfl
theorem ri_row44 : ri_row 44 = (yX2_errorOfPlacing, cX2_errorOfPlacing, 4, (some .int), 2, 5, 3) := rfl
theorem ri_row45 : ri_row 45 = (yX2_firstReason, cX2_firstReason, 5, (some .int), 2, 4, 3) := rfl
theorem ri_row46 : ri_row 46 = (yX2_reasonOfSlot, cX2_reasonOfSlot, 5, (some .int), 2, 3, 2) := rfl
theorem ri_row47 : ri_row 47 = (yX2_reasonOfRoom, cX2_reasonOfRoom, 5, (some .int), 2, 2, 3) := rfl
theorem ri_row48 : ri_row 48 = (yX2_hasBusyGroup, cX2_hasBusyGroup, 4, (some .boolean), 2, 2, 2) := rfl
theorem ri_row49 : ri_row 49 = (yX2_isBusy, cX2_isBusy, 5, (some .boolean), 2, 1, 3) := rfl
theorem ri_row50 : ri_row 50 = (yX2_lowestFreeRoom, cX2_lowestFreeRoom, 4, (some .int), 2, 4, 2) := rfl
theorem ri_row51 : ri_row 51 = (yX2_freePlaces, cX2_freePlaces, 4, (some .int), 2, 4, 1) := rfl
theorem ri_row52 : ri_row 52 = (yX2_freeRooms, cX2_freeRooms, 5, (some .int), 2, 3, 2) := rfl
theorem ri_row53 : ri_row 53 = (yX3_init, cX3_init, 1, none, 3, 2, 0) := rfl
theorem ri_row54 : ri_row 54 = (yX3_append, cX3_append, 2, none, 3, 1, 1) := rfl
theorem ri_row55 : ri_row 55 = (yX3_parse, cX3_parse, 5, (some .int), 3, 3, 0) := rfl
theorem ri_row56 : ri_row 56 = (yX3_putPlacing, cX3_putPlacing, 4, none, 3, 1, 3) := rfl
theorem ri_row57 : ri_row 57 = (yX3_reads, cX3_reads, 2, (some .boolean), 3, 1, 1) := rfl
theorem ri_row58 : ri_row 58 = (yX3_readDigit, cX3_readDigit, 2, (some .int), 3, 1, 0) := rfl
theorem ri_row59 : ri_row 59 = (yX3_readNumber, cX3_readNumber, 3, (some .int), 3, 2, 0) := rfl
theorem ri_row60 : ri_row 60 = (yX4_init, cX4_init, 2, none, 4, 3, 0) := rfl
theorem ri_row61 : ri_row 61 = (yX4_setCycle, cX4_setCycle, 3, (some .int), 4, 4, 2) := rfl
theorem ri_row62 : ri_row 62 = (yX4_holiday, cX4_holiday, 3, (some .int), 4, 4, 2) := rfl
theorem ri_row63 : ri_row 63 = (yX4_addGroup, cX4_addGroup, 2, (some .int), 4, 4, 0) := rfl
theorem ri_row64 : ri_row 64 = (yX4_addTeacher, cX4_addTeacher, 4, (some .int), 4, 4, 2) := rfl
theorem ri_row65 : ri_row 65 = (yX4_addRoom, cX4_addRoom, 3, (some .int), 4, 4, 1) := rfl
theorem ri_row66 : ri_row 66 = (yX4_addCourse, cX4_addCourse, 7, (some .int), 4, 4, 5) := rfl
theorem ri_row67 : ri_row 67 = (yX4_join, cX4_join, 3, (some .int), 4, 4, 2) := rfl
theorem ri_row68 : ri_row 68 = (yX4_bar, cX4_bar, 4, (some .int), 4, 4, 3) := rfl
theorem ri_row69 : ri_row 69 = (yX4_place, cX4_place, 5, (some .int), 4, 6, 3) := rfl
theorem ri_row70 : ri_row 70 = (yX4_takeAway, cX4_takeAway, 3, (some .int), 4, 4, 2) := rfl
theorem ri_row71 : ri_row 71 = (yX4_move, cX4_move, 6, (some .int), 4, 5, 4) := rfl
theorem ri_row72 : ri_row 72 = (yX4_swap, cX4_swap, 7, (some .int), 4, 5, 4) := rfl
theorem ri_row73 : ri_row 73 = (yX4_fill, cX4_fill, 5, (some .int), 4, 5, 1) := rfl
theorem ri_row74 : ri_row 74 = (yX4_type, cX4_type, 2, (some .int), 4, 2, 1) := rfl
theorem ri_row75 : ri_row 75 = (yX4_clearText, cX4_clearText, 2, (some .int), 4, 0, 0) := rfl
theorem ri_row76 : ri_row 76 = (yX4_readPlacings, cX4_readPlacings, 7, (some .int), 4, 6, 0) := rfl
theorem ri_row77 : ri_row 77 = (yX4_undo, cX4_undo, 1, (some .int), 4, 3, 0) := rfl
theorem ri_row78 : ri_row 78 = (yX4_keep, cX4_keep, 1, (some .int), 4, 3, 0) := rfl
theorem ri_row79 : ri_row 79 = (yX4_restore, cX4_restore, 1, (some .int), 4, 4, 0) := rfl
theorem ri_row80 : ri_row 80 = (yX4_reason, cX4_reason, 4, (some .int), 4, 5, 3) := rfl
theorem ri_row81 : ri_row 81 = (yX4_course, cX4_course, 3, (some .int), 4, 5, 2) := rfl
theorem ri_row82 : ri_row 82 = (yX4_lessonAt, cX4_lessonAt, 5, (some .int), 4, 3, 2) := rfl
theorem ri_row83 : ri_row 83 = (yX4_groupAt, cX4_groupAt, 5, (some .int), 4, 3, 3) := rfl
theorem ri_row84 : ri_row 84 = (yX4_roomAt, cX4_roomAt, 4, (some .int), 4, 2, 2) := rfl
theorem ri_row85 : ri_row 85 = (yX4_teacherAt, cX4_teacherAt, 4, (some .int), 4, 2, 2) := rfl
theorem ri_row86 : ri_row 86 = (yX4_teacher, cX4_teacher, 3, (some .int), 4, 3, 2) := rfl
theorem ri_row87 : ri_row 87 = (yX4_group, cX4_group, 5, (some .int), 4, 5, 3) := rfl
theorem ri_row88 : ri_row 88 = (yX4_room, cX4_room, 3, (some .int), 4, 2, 2) := rfl
theorem ri_row89 : ri_row 89 = (yX4_dayOf, cX4_dayOf, 2, (some .int), 4, 3, 1) := rfl
theorem ri_row90 : ri_row 90 = (yX4_nextDate, cX4_nextDate, 5, (some .int), 4, 3, 2) := rfl
theorem ri_row91 : ri_row 91 = (yX4_count, cX4_count, 2, (some .int), 4, 5, 1) := rfl
theorem ri_row92 : ri_row 92 = (yX4_isIn, cX4_isIn, 3, (some .boolean), 4, 0, 3) := rfl
theorem ri_row93 : ri_row 93 = (yX4_isDate, cX4_isDate, 1, (some .boolean), 4, 1, 1) := rfl
theorem ri_row94 : ri_row 94 = (yX4_knowsGroup, cX4_knowsGroup, 2, (some .boolean), 4, 1, 1) := rfl
theorem ri_row95 : ri_row 95 = (yX4_knowsTeacher, cX4_knowsTeacher, 2, (some .boolean), 4, 1, 1) := rfl
theorem ri_row96 : ri_row 96 = (yX4_knowsCourse, cX4_knowsCourse, 2, (some .boolean), 4, 2, 1) := rfl
theorem ri_row97 : ri_row 97 = (yX4_remember, cX4_remember, 2, none, 4, 3, 0) := rfl
theorem ri_row98 : ri_row 98 = (yX4_adoptTrial, cX4_adoptTrial, 1, none, 4, 4, 0) := rfl
theorem ri_row99 : ri_row 99 = (yX4_historyAt, cX4_historyAt, 3, (some (.object RX2)), 4, 0, 1) := rfl
theorem ri_row100 : ri_row 100 = (yX5_init, cX5_init, 1, none, 5, 1, 0) := rfl
theorem ri_row101 : ri_row 101 = (yX5_isIn, cX5_isIn, 3, (some .boolean), 5, 0, 3) := rfl
theorem ri_row102 : ri_row 102 = (yX5_slots, cX5_slots, 1, (some .int), 5, 0, 0) := rfl
theorem ri_row103 : ri_row 103 = (yX5_isSlot, cX5_isSlot, 2, (some .boolean), 5, 1, 1) := rfl
theorem ri_row104 : ri_row 104 = (yX5_isGroup, cX5_isGroup, 2, (some .boolean), 5, 1, 1) := rfl
theorem ri_row105 : ri_row 105 = (yX5_isTeacher, cX5_isTeacher, 2, (some .boolean), 5, 1, 1) := rfl
theorem ri_row106 : ri_row 106 = (yX5_isRoom, cX5_isRoom, 2, (some .boolean), 5, 1, 1) := rfl
theorem ri_row107 : ri_row 107 = (yX5_isCourse, cX5_isCourse, 2, (some .boolean), 5, 1, 1) := rfl
theorem ri_row108 : ri_row 108 = (yX5_of, cX5_of, 3, (some .int), 5, 0, 2) := rfl
theorem ri_row109 : ri_row 109 = (yX5_roomOf, cX5_roomOf, 4, (some .int), 5, 0, 2) := rfl
theorem ri_row110 : ri_row 110 = (yX5_has, cX5_has, 3, (some .boolean), 5, 1, 2) := rfl
theorem ri_row111 : ri_row 111 = (yX5_puts, cX5_puts, 4, none, 5, 0, 3) := rfl
theorem ri_row112 : ri_row 112 = (yX5_isBarred, cX5_isBarred, 3, (some .boolean), 5, 0, 2) := rfl
theorem ri_row113 : ri_row 113 = (yX5_keeps, cX5_keeps, 3, none, 5, 0, 1) := rfl
theorem ri_row114 : ri_row 114 = (yX5_brings, cX5_brings, 3, none, 5, 0, 1) := rfl
theorem ri_row115 : ri_row 115 = (yX5_recordsTrial, cX5_recordsTrial, 2, none, 5, 0, 0) := rfl
theorem ri_row116 : ri_row 116 = (yX5_records, cX5_records, 1, none, 5, 1, 0) := rfl
theorem ri_row117 : ri_row 117 = (yX5_undo, cX5_undo, 1, (some .int), 5, 1, 0) := rfl
theorem ri_row118 : ri_row 118 = (yX5_placedInAll, cX5_placedInAll, 3, (some .int), 5, 3, 0) := rfl
theorem ri_row119 : ri_row 119 = (yX5_keep, cX5_keep, 1, (some .int), 5, 4, 0) := rfl
theorem ri_row120 : ri_row 120 = (yX5_restore, cX5_restore, 1, (some .int), 5, 4, 0) := rfl
theorem ri_row121 : ri_row 121 = (yX5_setCycle, cX5_setCycle, 4, (some .int), 5, 4, 2) := rfl
theorem ri_row122 : ri_row 122 = (yX5_holidays, cX5_holidays, 4, (some .int), 5, 0, 1) := rfl
theorem ri_row123 : ri_row 123 = (yX5_holiday, cX5_holiday, 4, (some .int), 5, 2, 2) := rfl
theorem ri_row124 : ri_row 124 = (yX5_dayBy, cX5_dayBy, 2, (some .int), 5, 1, 1) := rfl
theorem ri_row125 : ri_row 125 = (yX5_dayOf, cX5_dayOf, 2, (some .int), 5, 2, 1) := rfl
theorem ri_row126 : ri_row 126 = (yX5_nextDate, cX5_nextDate, 4, (some .int), 5, 2, 2) := rfl
theorem ri_row127 : ri_row 127 = (yX5_addGroup, cX5_addGroup, 1, (some .int), 5, 2, 0) := rfl
theorem ri_row128 : ri_row 128 = (yX5_addTeacher, cX5_addTeacher, 4, (some .int), 5, 2, 2) := rfl
theorem ri_row129 : ri_row 129 = (yX5_addRoom, cX5_addRoom, 2, (some .int), 5, 2, 1) := rfl
theorem ri_row130 : ri_row 130 = (yX5_addCourse, cX5_addCourse, 7, (some .int), 5, 2, 5) := rfl
theorem ri_row131 : ri_row 131 = (yX5_join, cX5_join, 3, (some .int), 5, 3, 2) := rfl
theorem ri_row132 : ri_row 132 = (yX5_barred, cX5_barred, 4, (some .int), 5, 1, 1) := rfl
theorem ri_row133 : ri_row 133 = (yX5_bar, cX5_bar, 4, (some .int), 5, 3, 3) := rfl
theorem ri_row134 : ri_row 134 = (yX5_placed, cX5_placed, 4, (some .int), 5, 2, 1) := rfl
theorem ri_row135 : ri_row 135 = (yX5_courseOf, cX5_courseOf, 4, (some .int), 5, 2, 2) := rfl
theorem ri_row136 : ri_row 136 = (yX5_courseIn, cX5_courseIn, 4, (some .int), 5, 1, 2) := rfl
theorem ri_row137 : ri_row 137 = (yX5_onDay, cX5_onDay, 8, (some .int), 5, 2, 3) := rfl
theorem ri_row138 : ri_row 138 = (yX5_lessonsOf, cX5_lessonsOf, 4, (some .int), 5, 3, 1) := rfl
theorem ri_row139 : ri_row 139 = (yX5_isFor, cX5_isFor, 3, (some .boolean), 5, 1, 2) := rfl
theorem ri_row140 : ri_row 140 = (yX5_isBusy, cX5_isBusy, 7, (some .boolean), 5, 2, 2) := rfl
theorem ri_row141 : ri_row 141 = (yX5_reasonOf, cX5_reasonOf, 6, (some .int), 5, 4, 3) := rfl
theorem ri_row142 : ri_row 142 = (yX5_reason, cX5_reason, 4, (some .int), 5, 5, 3) := rfl
theorem ri_row143 : ri_row 143 = (yX5_placeError, cX5_placeError, 4, (some .int), 5, 5, 3) := rfl
theorem ri_row144 : ri_row 144 = (yX5_place, cX5_place, 5, (some .int), 5, 6, 3) := rfl
theorem ri_row145 : ri_row 145 = (yX5_isLesson, cX5_isLesson, 3, (some .boolean), 5, 2, 2) := rfl
theorem ri_row146 : ri_row 146 = (yX5_takeAway, cX5_takeAway, 3, (some .int), 5, 3, 2) := rfl
theorem ri_row147 : ri_row 147 = (yX5_move, cX5_move, 6, (some .int), 5, 5, 4) := rfl
theorem ri_row148 : ri_row 148 = (yX5_lessonsIn, cX5_lessonsIn, 4, (some .int), 5, 2, 1) := rfl
theorem ri_row149 : ri_row 149 = (yX5_swap, cX5_swap, 8, (some .int), 5, 5, 4) := rfl
theorem ri_row150 : ri_row 150 = (yX5_fills, cX5_fills, 4, (some .boolean), 5, 5, 1) := rfl
theorem ri_row151 : ri_row 151 = (yX5_fill, cX5_fill, 3, (some .int), 5, 6, 1) := rfl
theorem ri_row152 : ri_row 152 = (yX5_type, cX5_type, 2, (some .int), 5, 0, 1) := rfl
theorem ri_row153 : ri_row 153 = (yX5_clearText, cX5_clearText, 2, (some .int), 5, 0, 0) := rfl
theorem ri_row154 : ri_row 154 = (yX5_isHere, cX5_isHere, 3, (some .boolean), 5, 1, 2) := rfl
theorem ri_row155 : ri_row 155 = (yX5_passesSign, cX5_passesSign, 3, (some .boolean), 5, 2, 1) := rfl
theorem ri_row156 : ri_row 156 = (yX5_passesNumber, cX5_passesNumber, 4, (some .boolean), 5, 2, 1) := rfl
theorem ri_row157 : ri_row 157 = (yX5_passesPlacing, cX5_passesPlacing, 1, (some .boolean), 5, 3, 0) := rfl
theorem ri_row158 : ri_row 158 = (yX5_faultOf, cX5_faultOf, 1, (some .int), 5, 4, 0) := rfl
theorem ri_row159 : ri_row 159 = (yX5_readPlacings, cX5_readPlacings, 5, (some .int), 5, 6, 0) := rfl
theorem ri_row160 : ri_row 160 = (yX5_placesFor, cX5_placesFor, 5, (some .int), 5, 5, 1) := rfl
theorem ri_row161 : ri_row 161 = (yX5_course, cX5_course, 3, (some .int), 5, 6, 2) := rfl
theorem ri_row162 : ri_row 162 = (yX5_lessonAt, cX5_lessonAt, 5, (some .int), 5, 2, 2) := rfl
theorem ri_row163 : ri_row 163 = (yX5_takesPart, cX5_takesPart, 4, (some .boolean), 5, 2, 3) := rfl
theorem ri_row164 : ri_row 164 = (yX5_courseFor, cX5_courseFor, 5, (some .int), 5, 3, 3) := rfl
theorem ri_row165 : ri_row 165 = (yX5_groupAt, cX5_groupAt, 4, (some .int), 5, 4, 3) := rfl
theorem ri_row166 : ri_row 166 = (yX5_roomAt, cX5_roomAt, 3, (some .int), 5, 2, 2) := rfl
theorem ri_row167 : ri_row 167 = (yX5_teacherAt, cX5_teacherAt, 3, (some .int), 5, 3, 2) := rfl
theorem ri_row168 : ri_row 168 = (yX5_windows, cX5_windows, 9, (some .int), 5, 4, 2) := rfl
theorem ri_row169 : ri_row 169 = (yX5_mostOnDay, cX5_mostOnDay, 5, (some .int), 5, 3, 1) := rfl
theorem ri_row170 : ri_row 170 = (yX5_coursesOf, cX5_coursesOf, 5, (some .int), 5, 1, 2) := rfl
theorem ri_row171 : ri_row 171 = (yX5_teacher, cX5_teacher, 3, (some .int), 5, 5, 2) := rfl
theorem ri_row172 : ri_row 172 = (yX5_lessonsFor, cX5_lessonsFor, 6, (some .int), 5, 3, 3) := rfl
theorem ri_row173 : ri_row 173 = (yX5_group, cX5_group, 4, (some .int), 5, 5, 3) := rfl
theorem ri_row174 : ri_row 174 = (yX5_taken, cX5_taken, 4, (some .int), 5, 2, 1) := rfl
theorem ri_row175 : ri_row 175 = (yX5_room, cX5_room, 3, (some .int), 5, 3, 2) := rfl
theorem ri_row176 : ri_row 176 = (yX5_lessonsInAll, cX5_lessonsInAll, 3, (some .int), 5, 1, 0) := rfl
theorem ri_row177 : ri_row 177 = (yX5_count, cX5_count, 2, (some .int), 5, 4, 1) := rfl
theorem ri_row178 : ri_row 178 = (yJ13_bitCount_95d88, cJ13_bitCount_95d88, 2, (some .int), 6, 0, 1) := rfl
theorem ri_row179 : ri_row 179 = (yL_law, cL_law, 4, (some .boolean), 7, 7, 1) := rfl
set_option maxRecDepth 100000 in
theorem ri_codes : ∀ y, y < 179 → Jvm.Cond.code (ri_nm y) (ri_bc y) (ri_ml y) (ri_rt y) ∈ lw_tbl
  | 0, _ => by simp only [ri_nm, ri_bc, ri_ml, ri_rt, ri_row0]; exact List.mem_of_getElem? ri_cd0
  | 1, _ => by simp only [ri_nm, ri_bc, ri_ml, ri_rt, ri_row1]; exact List.mem_of_getElem? ri_cd1
  | 2, _ => by simp only [ri_nm, ri_bc, ri_ml, ri_rt, ri_row2]; exact List.mem_of_getElem? ri_cd2
  | 3, _ => by simp only [ri_nm, ri_bc, ri_ml, ri_rt, ri_row3]; exact List.mem_of_getElem? ri_cd3
  | 4, _ => by simp only [ri_nm, ri_bc, ri_ml, ri_rt, ri_row4]; exact List.mem_of_getElem? ri_cd4
  | 5, _ => by simp only [ri_nm, ri_bc, ri_ml, ri_rt, ri_row5]; exact List.mem_of_getElem? ri_cd5
  | 6, _ => by simp only [ri_nm, ri_bc, ri_ml, ri_rt, ri_row6]; exact List.mem_of_getElem? ri_cd6
  | 7, _ => by simp only [ri_nm, ri_bc, ri_ml, ri_rt, ri_row7]; exact List.mem_of_getElem? ri_cd7
  | 8, _ => by simp only [ri_nm, ri_bc, ri_ml, ri_rt, ri_row8]; exact List.mem_of_getElem? ri_cd8
  | 9, _ => by simp only [ri_nm, ri_bc, ri_ml, ri_rt, ri_row9]; exact List.mem_of_getElem? ri_cd9
  | 10, _ => by simp only [ri_nm, ri_bc, ri_ml, ri_rt, ri_row10]; exact List.mem_of_getElem? ri_cd10
  | 11, _ => by simp only [ri_nm, ri_bc, ri_ml, ri_rt, ri_row11]; exact List.mem_of_getElem? ri_cd11
  | 12, _ => by simp only [ri_nm, ri_bc, ri_ml, ri_rt, ri_row12]; exact List.mem_of_getElem? ri_cd12
  | 13, _ => by simp only [ri_nm, ri_bc, ri_ml, ri_rt, ri_row13]; exact List.mem_of_getElem? ri_cd13
  | 14, _ => by simp only [ri_nm, ri_bc, ri_ml, ri_rt, ri_row14]; exact List.mem_of_getElem? ri_cd14
  | 15, _ => by simp only [ri_nm, ri_bc, ri_ml, ri_rt, ri_row15]; exact List.mem_of_getElem? ri_cd15
  | 16, _ => by simp only [ri_nm, ri_bc, ri_ml, ri_rt, ri_row16]; exact List.mem_of_getElem? ri_cd16
  | 17, _ => by simp only [ri_nm, ri_bc, ri_ml, ri_rt, ri_row17]; exact List.mem_of_getElem? ri_cd17
  | 18, _ => by simp only [ri_nm, ri_bc, ri_ml, ri_rt, ri_row18]; exact List.mem_of_getElem? ri_cd18
  | 19, _ => by simp only [ri_nm, ri_bc, ri_ml, ri_rt, ri_row19]; exact List.mem_of_getElem? ri_cd19
  | 20, _ => by simp only [ri_nm, ri_bc, ri_ml, ri_rt, ri_row20]; exact List.mem_of_getElem? ri_cd20
  | 21, _ => by simp only [ri_nm, ri_bc, ri_ml, ri_rt, ri_row21]; exact List.mem_of_getElem? ri_cd21
  | 22, _ => by simp only [ri_nm, ri_bc, ri_ml, ri_rt, ri_row22]; exact List.mem_of_getElem? ri_cd22
  | 23, _ => by simp only [ri_nm, ri_bc, ri_ml, ri_rt, ri_row23]; exact List.mem_of_getElem? ri_cd23
  | 24, _ => by simp only [ri_nm, ri_bc, ri_ml, ri_rt, ri_row24]; exact List.mem_of_getElem? ri_cd24
  | 25, _ => by simp only [ri_nm, ri_bc, ri_ml, ri_rt, ri_row25]; exact List.mem_of_getElem? ri_cd25
  | 26, _ => by simp only [ri_nm, ri_bc, ri_ml, ri_rt, ri_row26]; exact List.mem_of_getElem? ri_cd26
  | 27, _ => by simp only [ri_nm, ri_bc, ri_ml, ri_rt, ri_row27]; exact List.mem_of_getElem? ri_cd27
  | 28, _ => by simp only [ri_nm, ri_bc, ri_ml, ri_rt, ri_row28]; exact List.mem_of_getElem? ri_cd28
  | 29, _ => by simp only [ri_nm, ri_bc, ri_ml, ri_rt, ri_row29]; exact List.mem_of_getElem? ri_cd29
  | 30, _ => by simp only [ri_nm, ri_bc, ri_ml, ri_rt, ri_row30]; exact List.mem_of_getElem? ri_cd30
  | 31, _ => by simp only [ri_nm, ri_bc, ri_ml, ri_rt, ri_row31]; exact List.mem_of_getElem? ri_cd31
  | 32, _ => by simp only [ri_nm, ri_bc, ri_ml, ri_rt, ri_row32]; exact List.mem_of_getElem? ri_cd32
  | 33, _ => by simp only [ri_nm, ri_bc, ri_ml, ri_rt, ri_row33]; exact List.mem_of_getElem? ri_cd33
  | 34, _ => by simp only [ri_nm, ri_bc, ri_ml, ri_rt, ri_row34]; exact List.mem_of_getElem? ri_cd34
  | 35, _ => by simp only [ri_nm, ri_bc, ri_ml, ri_rt, ri_row35]; exact List.mem_of_getElem? ri_cd35
  | 36, _ => by simp only [ri_nm, ri_bc, ri_ml, ri_rt, ri_row36]; exact List.mem_of_getElem? ri_cd36
  | 37, _ => by simp only [ri_nm, ri_bc, ri_ml, ri_rt, ri_row37]; exact List.mem_of_getElem? ri_cd37
  | 38, _ => by simp only [ri_nm, ri_bc, ri_ml, ri_rt, ri_row38]; exact List.mem_of_getElem? ri_cd38
  | 39, _ => by simp only [ri_nm, ri_bc, ri_ml, ri_rt, ri_row39]; exact List.mem_of_getElem? ri_cd39
  | 40, _ => by simp only [ri_nm, ri_bc, ri_ml, ri_rt, ri_row40]; exact List.mem_of_getElem? ri_cd40
  | 41, _ => by simp only [ri_nm, ri_bc, ri_ml, ri_rt, ri_row41]; exact List.mem_of_getElem? ri_cd41
  | 42, _ => by simp only [ri_nm, ri_bc, ri_ml, ri_rt, ri_row42]; exact List.mem_of_getElem? ri_cd42
  | 43, _ => by simp only [ri_nm, ri_bc, ri_ml, ri_rt, ri_row43]; exact List.mem_of_getElem? ri_cd43
  | 44, _ => by simp only [ri_nm, ri_bc, ri_ml, ri_rt, ri_row44]; exact List.mem_of_getElem? ri_cd44
  | 45, _ => by simp only [ri_nm, ri_bc, ri_ml, ri_rt, ri_row45]; exact List.mem_of_getElem? ri_cd45
  | 46, _ => by simp only [ri_nm, ri_bc, ri_ml, ri_rt, ri_row46]; exact List.mem_of_getElem? ri_cd46
  | 47, _ => by simp only [ri_nm, ri_bc, ri_ml, ri_rt, ri_row47]; exact List.mem_of_getElem? ri_cd47
  | 48, _ => by simp only [ri_nm, ri_bc, ri_ml, ri_rt, ri_row48]; exact List.mem_of_getElem? ri_cd48
  | 49, _ => by simp only [ri_nm, ri_bc, ri_ml, ri_rt, ri_row49]; exact List.mem_of_getElem? ri_cd49
  | 50, _ => by simp only [ri_nm, ri_bc, ri_ml, ri_rt, ri_row50]; exact List.mem_of_getElem? ri_cd50
  | 51, _ => by simp only [ri_nm, ri_bc, ri_ml, ri_rt, ri_row51]; exact List.mem_of_getElem? ri_cd51
  | 52, _ => by simp only [ri_nm, ri_bc, ri_ml, ri_rt, ri_row52]; exact List.mem_of_getElem? ri_cd52
  | 53, _ => by simp only [ri_nm, ri_bc, ri_ml, ri_rt, ri_row53]; exact List.mem_of_getElem? ri_cd53
  | 54, _ => by simp only [ri_nm, ri_bc, ri_ml, ri_rt, ri_row54]; exact List.mem_of_getElem? ri_cd54
  | 55, _ => by simp only [ri_nm, ri_bc, ri_ml, ri_rt, ri_row55]; exact List.mem_of_getElem? ri_cd55
  | 56, _ => by simp only [ri_nm, ri_bc, ri_ml, ri_rt, ri_row56]; exact List.mem_of_getElem? ri_cd56
  | 57, _ => by simp only [ri_nm, ri_bc, ri_ml, ri_rt, ri_row57]; exact List.mem_of_getElem? ri_cd57
  | 58, _ => by simp only [ri_nm, ri_bc, ri_ml, ri_rt, ri_row58]; exact List.mem_of_getElem? ri_cd58
  | 59, _ => by simp only [ri_nm, ri_bc, ri_ml, ri_rt, ri_row59]; exact List.mem_of_getElem? ri_cd59
  | 60, _ => by simp only [ri_nm, ri_bc, ri_ml, ri_rt, ri_row60]; exact List.mem_of_getElem? ri_cd60
  | 61, _ => by simp only [ri_nm, ri_bc, ri_ml, ri_rt, ri_row61]; exact List.mem_of_getElem? ri_cd61
  | 62, _ => by simp only [ri_nm, ri_bc, ri_ml, ri_rt, ri_row62]; exact List.mem_of_getElem? ri_cd62
  | 63, _ => by simp only [ri_nm, ri_bc, ri_ml, ri_rt, ri_row63]; exact List.mem_of_getElem? ri_cd63
  | 64, _ => by simp only [ri_nm, ri_bc, ri_ml, ri_rt, ri_row64]; exact List.mem_of_getElem? ri_cd64
  | 65, _ => by simp only [ri_nm, ri_bc, ri_ml, ri_rt, ri_row65]; exact List.mem_of_getElem? ri_cd65
  | 66, _ => by simp only [ri_nm, ri_bc, ri_ml, ri_rt, ri_row66]; exact List.mem_of_getElem? ri_cd66
  | 67, _ => by simp only [ri_nm, ri_bc, ri_ml, ri_rt, ri_row67]; exact List.mem_of_getElem? ri_cd67
  | 68, _ => by simp only [ri_nm, ri_bc, ri_ml, ri_rt, ri_row68]; exact List.mem_of_getElem? ri_cd68
  | 69, _ => by simp only [ri_nm, ri_bc, ri_ml, ri_rt, ri_row69]; exact List.mem_of_getElem? ri_cd69
  | 70, _ => by simp only [ri_nm, ri_bc, ri_ml, ri_rt, ri_row70]; exact List.mem_of_getElem? ri_cd70
  | 71, _ => by simp only [ri_nm, ri_bc, ri_ml, ri_rt, ri_row71]; exact List.mem_of_getElem? ri_cd71
  | 72, _ => by simp only [ri_nm, ri_bc, ri_ml, ri_rt, ri_row72]; exact List.mem_of_getElem? ri_cd72
  | 73, _ => by simp only [ri_nm, ri_bc, ri_ml, ri_rt, ri_row73]; exact List.mem_of_getElem? ri_cd73
  | 74, _ => by simp only [ri_nm, ri_bc, ri_ml, ri_rt, ri_row74]; exact List.mem_of_getElem? ri_cd74
  | 75, _ => by simp only [ri_nm, ri_bc, ri_ml, ri_rt, ri_row75]; exact List.mem_of_getElem? ri_cd75
  | 76, _ => by simp only [ri_nm, ri_bc, ri_ml, ri_rt, ri_row76]; exact List.mem_of_getElem? ri_cd76
  | 77, _ => by simp only [ri_nm, ri_bc, ri_ml, ri_rt, ri_row77]; exact List.mem_of_getElem? ri_cd77
  | 78, _ => by simp only [ri_nm, ri_bc, ri_ml, ri_rt, ri_row78]; exact List.mem_of_getElem? ri_cd78
  | 79, _ => by simp only [ri_nm, ri_bc, ri_ml, ri_rt, ri_row79]; exact List.mem_of_getElem? ri_cd79
  | 80, _ => by simp only [ri_nm, ri_bc, ri_ml, ri_rt, ri_row80]; exact List.mem_of_getElem? ri_cd80
  | 81, _ => by simp only [ri_nm, ri_bc, ri_ml, ri_rt, ri_row81]; exact List.mem_of_getElem? ri_cd81
  | 82, _ => by simp only [ri_nm, ri_bc, ri_ml, ri_rt, ri_row82]; exact List.mem_of_getElem? ri_cd82
  | 83, _ => by simp only [ri_nm, ri_bc, ri_ml, ri_rt, ri_row83]; exact List.mem_of_getElem? ri_cd83
  | 84, _ => by simp only [ri_nm, ri_bc, ri_ml, ri_rt, ri_row84]; exact List.mem_of_getElem? ri_cd84
  | 85, _ => by simp only [ri_nm, ri_bc, ri_ml, ri_rt, ri_row85]; exact List.mem_of_getElem? ri_cd85
  | 86, _ => by simp only [ri_nm, ri_bc, ri_ml, ri_rt, ri_row86]; exact List.mem_of_getElem? ri_cd86
  | 87, _ => by simp only [ri_nm, ri_bc, ri_ml, ri_rt, ri_row87]; exact List.mem_of_getElem? ri_cd87
  | 88, _ => by simp only [ri_nm, ri_bc, ri_ml, ri_rt, ri_row88]; exact List.mem_of_getElem? ri_cd88
  | 89, _ => by simp only [ri_nm, ri_bc, ri_ml, ri_rt, ri_row89]; exact List.mem_of_getElem? ri_cd89
  | 90, _ => by simp only [ri_nm, ri_bc, ri_ml, ri_rt, ri_row90]; exact List.mem_of_getElem? ri_cd90
  | 91, _ => by simp only [ri_nm, ri_bc, ri_ml, ri_rt, ri_row91]; exact List.mem_of_getElem? ri_cd91
  | 92, _ => by simp only [ri_nm, ri_bc, ri_ml, ri_rt, ri_row92]; exact List.mem_of_getElem? ri_cd92
  | 93, _ => by simp only [ri_nm, ri_bc, ri_ml, ri_rt, ri_row93]; exact List.mem_of_getElem? ri_cd93
  | 94, _ => by simp only [ri_nm, ri_bc, ri_ml, ri_rt, ri_row94]; exact List.mem_of_getElem? ri_cd94
  | 95, _ => by simp only [ri_nm, ri_bc, ri_ml, ri_rt, ri_row95]; exact List.mem_of_getElem? ri_cd95
  | 96, _ => by simp only [ri_nm, ri_bc, ri_ml, ri_rt, ri_row96]; exact List.mem_of_getElem? ri_cd96
  | 97, _ => by simp only [ri_nm, ri_bc, ri_ml, ri_rt, ri_row97]; exact List.mem_of_getElem? ri_cd97
  | 98, _ => by simp only [ri_nm, ri_bc, ri_ml, ri_rt, ri_row98]; exact List.mem_of_getElem? ri_cd98
  | 99, _ => by simp only [ri_nm, ri_bc, ri_ml, ri_rt, ri_row99]; exact List.mem_of_getElem? ri_cd99
  | 100, _ => by simp only [ri_nm, ri_bc, ri_ml, ri_rt, ri_row100]; exact List.mem_of_getElem? ri_cd100
  | 101, _ => by simp only [ri_nm, ri_bc, ri_ml, ri_rt, ri_row101]; exact List.mem_of_getElem? ri_cd101
  | 102, _ => by simp only [ri_nm, ri_bc, ri_ml, ri_rt, ri_row102]; exact List.mem_of_getElem? ri_cd102
  | 103, _ => by simp only [ri_nm, ri_bc, ri_ml, ri_rt, ri_row103]; exact List.mem_of_getElem? ri_cd103
  | 104, _ => by simp only [ri_nm, ri_bc, ri_ml, ri_rt, ri_row104]; exact List.mem_of_getElem? ri_cd104
  | 105, _ => by simp only [ri_nm, ri_bc, ri_ml, ri_rt, ri_row105]; exact List.mem_of_getElem? ri_cd105
  | 106, _ => by simp only [ri_nm, ri_bc, ri_ml, ri_rt, ri_row106]; exact List.mem_of_getElem? ri_cd106
  | 107, _ => by simp only [ri_nm, ri_bc, ri_ml, ri_rt, ri_row107]; exact List.mem_of_getElem? ri_cd107
  | 108, _ => by simp only [ri_nm, ri_bc, ri_ml, ri_rt, ri_row108]; exact List.mem_of_getElem? ri_cd108
  | 109, _ => by simp only [ri_nm, ri_bc, ri_ml, ri_rt, ri_row109]; exact List.mem_of_getElem? ri_cd109
  | 110, _ => by simp only [ri_nm, ri_bc, ri_ml, ri_rt, ri_row110]; exact List.mem_of_getElem? ri_cd110
  | 111, _ => by simp only [ri_nm, ri_bc, ri_ml, ri_rt, ri_row111]; exact List.mem_of_getElem? ri_cd111
  | 112, _ => by simp only [ri_nm, ri_bc, ri_ml, ri_rt, ri_row112]; exact List.mem_of_getElem? ri_cd112
  | 113, _ => by simp only [ri_nm, ri_bc, ri_ml, ri_rt, ri_row113]; exact List.mem_of_getElem? ri_cd113
  | 114, _ => by simp only [ri_nm, ri_bc, ri_ml, ri_rt, ri_row114]; exact List.mem_of_getElem? ri_cd114
  | 115, _ => by simp only [ri_nm, ri_bc, ri_ml, ri_rt, ri_row115]; exact List.mem_of_getElem? ri_cd115
  | 116, _ => by simp only [ri_nm, ri_bc, ri_ml, ri_rt, ri_row116]; exact List.mem_of_getElem? ri_cd116
  | 117, _ => by simp only [ri_nm, ri_bc, ri_ml, ri_rt, ri_row117]; exact List.mem_of_getElem? ri_cd117
  | 118, _ => by simp only [ri_nm, ri_bc, ri_ml, ri_rt, ri_row118]; exact List.mem_of_getElem? ri_cd118
  | 119, _ => by simp only [ri_nm, ri_bc, ri_ml, ri_rt, ri_row119]; exact List.mem_of_getElem? ri_cd119
  | 120, _ => by simp only [ri_nm, ri_bc, ri_ml, ri_rt, ri_row120]; exact List.mem_of_getElem? ri_cd120
  | 121, _ => by simp only [ri_nm, ri_bc, ri_ml, ri_rt, ri_row121]; exact List.mem_of_getElem? ri_cd121
  | 122, _ => by simp only [ri_nm, ri_bc, ri_ml, ri_rt, ri_row122]; exact List.mem_of_getElem? ri_cd122
  | 123, _ => by simp only [ri_nm, ri_bc, ri_ml, ri_rt, ri_row123]; exact List.mem_of_getElem? ri_cd123
  | 124, _ => by simp only [ri_nm, ri_bc, ri_ml, ri_rt, ri_row124]; exact List.mem_of_getElem? ri_cd124
  | 125, _ => by simp only [ri_nm, ri_bc, ri_ml, ri_rt, ri_row125]; exact List.mem_of_getElem? ri_cd125
  | 126, _ => by simp only [ri_nm, ri_bc, ri_ml, ri_rt, ri_row126]; exact List.mem_of_getElem? ri_cd126
  | 127, _ => by simp only [ri_nm, ri_bc, ri_ml, ri_rt, ri_row127]; exact List.mem_of_getElem? ri_cd127
  | 128, _ => by simp only [ri_nm, ri_bc, ri_ml, ri_rt, ri_row128]; exact List.mem_of_getElem? ri_cd128
  | 129, _ => by simp only [ri_nm, ri_bc, ri_ml, ri_rt, ri_row129]; exact List.mem_of_getElem? ri_cd129
  | 130, _ => by simp only [ri_nm, ri_bc, ri_ml, ri_rt, ri_row130]; exact List.mem_of_getElem? ri_cd130
  | 131, _ => by simp only [ri_nm, ri_bc, ri_ml, ri_rt, ri_row131]; exact List.mem_of_getElem? ri_cd131
  | 132, _ => by simp only [ri_nm, ri_bc, ri_ml, ri_rt, ri_row132]; exact List.mem_of_getElem? ri_cd132
  | 133, _ => by simp only [ri_nm, ri_bc, ri_ml, ri_rt, ri_row133]; exact List.mem_of_getElem? ri_cd133
  | 134, _ => by simp only [ri_nm, ri_bc, ri_ml, ri_rt, ri_row134]; exact List.mem_of_getElem? ri_cd134
  | 135, _ => by simp only [ri_nm, ri_bc, ri_ml, ri_rt, ri_row135]; exact List.mem_of_getElem? ri_cd135
  | 136, _ => by simp only [ri_nm, ri_bc, ri_ml, ri_rt, ri_row136]; exact List.mem_of_getElem? ri_cd136
  | 137, _ => by simp only [ri_nm, ri_bc, ri_ml, ri_rt, ri_row137]; exact List.mem_of_getElem? ri_cd137
  | 138, _ => by simp only [ri_nm, ri_bc, ri_ml, ri_rt, ri_row138]; exact List.mem_of_getElem? ri_cd138
  | 139, _ => by simp only [ri_nm, ri_bc, ri_ml, ri_rt, ri_row139]; exact List.mem_of_getElem? ri_cd139
  | 140, _ => by simp only [ri_nm, ri_bc, ri_ml, ri_rt, ri_row140]; exact List.mem_of_getElem? ri_cd140
  | 141, _ => by simp only [ri_nm, ri_bc, ri_ml, ri_rt, ri_row141]; exact List.mem_of_getElem? ri_cd141
  | 142, _ => by simp only [ri_nm, ri_bc, ri_ml, ri_rt, ri_row142]; exact List.mem_of_getElem? ri_cd142
  | 143, _ => by simp only [ri_nm, ri_bc, ri_ml, ri_rt, ri_row143]; exact List.mem_of_getElem? ri_cd143
  | 144, _ => by simp only [ri_nm, ri_bc, ri_ml, ri_rt, ri_row144]; exact List.mem_of_getElem? ri_cd144
  | 145, _ => by simp only [ri_nm, ri_bc, ri_ml, ri_rt, ri_row145]; exact List.mem_of_getElem? ri_cd145
  | 146, _ => by simp only [ri_nm, ri_bc, ri_ml, ri_rt, ri_row146]; exact List.mem_of_getElem? ri_cd146
  | 147, _ => by simp only [ri_nm, ri_bc, ri_ml, ri_rt, ri_row147]; exact List.mem_of_getElem? ri_cd147
  | 148, _ => by simp only [ri_nm, ri_bc, ri_ml, ri_rt, ri_row148]; exact List.mem_of_getElem? ri_cd148
  | 149, _ => by simp only [ri_nm, ri_bc, ri_ml, ri_rt, ri_row149]; exact List.mem_of_getElem? ri_cd149
  | 150, _ => by simp only [ri_nm, ri_bc, ri_ml, ri_rt, ri_row150]; exact List.mem_of_getElem? ri_cd150
  | 151, _ => by simp only [ri_nm, ri_bc, ri_ml, ri_rt, ri_row151]; exact List.mem_of_getElem? ri_cd151
  | 152, _ => by simp only [ri_nm, ri_bc, ri_ml, ri_rt, ri_row152]; exact List.mem_of_getElem? ri_cd152
  | 153, _ => by simp only [ri_nm, ri_bc, ri_ml, ri_rt, ri_row153]; exact List.mem_of_getElem? ri_cd153
  | 154, _ => by simp only [ri_nm, ri_bc, ri_ml, ri_rt, ri_row154]; exact List.mem_of_getElem? ri_cd154
  | 155, _ => by simp only [ri_nm, ri_bc, ri_ml, ri_rt, ri_row155]; exact List.mem_of_getElem? ri_cd155
  | 156, _ => by simp only [ri_nm, ri_bc, ri_ml, ri_rt, ri_row156]; exact List.mem_of_getElem? ri_cd156
  | 157, _ => by simp only [ri_nm, ri_bc, ri_ml, ri_rt, ri_row157]; exact List.mem_of_getElem? ri_cd157
  | 158, _ => by simp only [ri_nm, ri_bc, ri_ml, ri_rt, ri_row158]; exact List.mem_of_getElem? ri_cd158
  | 159, _ => by simp only [ri_nm, ri_bc, ri_ml, ri_rt, ri_row159]; exact List.mem_of_getElem? ri_cd159
  | 160, _ => by simp only [ri_nm, ri_bc, ri_ml, ri_rt, ri_row160]; exact List.mem_of_getElem? ri_cd160
  | 161, _ => by simp only [ri_nm, ri_bc, ri_ml, ri_rt, ri_row161]; exact List.mem_of_getElem? ri_cd161
  | 162, _ => by simp only [ri_nm, ri_bc, ri_ml, ri_rt, ri_row162]; exact List.mem_of_getElem? ri_cd162
  | 163, _ => by simp only [ri_nm, ri_bc, ri_ml, ri_rt, ri_row163]; exact List.mem_of_getElem? ri_cd163
  | 164, _ => by simp only [ri_nm, ri_bc, ri_ml, ri_rt, ri_row164]; exact List.mem_of_getElem? ri_cd164
  | 165, _ => by simp only [ri_nm, ri_bc, ri_ml, ri_rt, ri_row165]; exact List.mem_of_getElem? ri_cd165
  | 166, _ => by simp only [ri_nm, ri_bc, ri_ml, ri_rt, ri_row166]; exact List.mem_of_getElem? ri_cd166
  | 167, _ => by simp only [ri_nm, ri_bc, ri_ml, ri_rt, ri_row167]; exact List.mem_of_getElem? ri_cd167
  | 168, _ => by simp only [ri_nm, ri_bc, ri_ml, ri_rt, ri_row168]; exact List.mem_of_getElem? ri_cd168
  | 169, _ => by simp only [ri_nm, ri_bc, ri_ml, ri_rt, ri_row169]; exact List.mem_of_getElem? ri_cd169
  | 170, _ => by simp only [ri_nm, ri_bc, ri_ml, ri_rt, ri_row170]; exact List.mem_of_getElem? ri_cd170
  | 171, _ => by simp only [ri_nm, ri_bc, ri_ml, ri_rt, ri_row171]; exact List.mem_of_getElem? ri_cd171
  | 172, _ => by simp only [ri_nm, ri_bc, ri_ml, ri_rt, ri_row172]; exact List.mem_of_getElem? ri_cd172
  | 173, _ => by simp only [ri_nm, ri_bc, ri_ml, ri_rt, ri_row173]; exact List.mem_of_getElem? ri_cd173
  | 174, _ => by simp only [ri_nm, ri_bc, ri_ml, ri_rt, ri_row174]; exact List.mem_of_getElem? ri_cd174
  | 175, _ => by simp only [ri_nm, ri_bc, ri_ml, ri_rt, ri_row175]; exact List.mem_of_getElem? ri_cd175
  | 176, _ => by simp only [ri_nm, ri_bc, ri_ml, ri_rt, ri_row176]; exact List.mem_of_getElem? ri_cd176
  | 177, _ => by simp only [ri_nm, ri_bc, ri_ml, ri_rt, ri_row177]; exact List.mem_of_getElem? ri_cd177
  | 178, _ => by simp only [ri_nm, ri_bc, ri_ml, ri_rt, ri_row178]; exact List.mem_of_getElem? ri_cd178
  | k + 179, h => absurd h (by omega)

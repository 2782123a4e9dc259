/-! the system's methods: name, code, locals, answer's type, own class, rank (how deep its calls go), how many arguments -/
abbrev ri_Row : Type := MethodName × ByteArray × Nat × Option FieldType × Nat × Nat × Nat
def ri_M0 : List ri_Row := [(yX0_init, cX0_init, 3, none, 0, 1, 2), (yX0_get, cX0_get, 4, (some .int), 0, 0, 2), (yX0_set, cX0_set, 5, none, 0, 0, 3), (yX0_copyFrom, cX0_copyFrom, 3, none, 0, 1, 1), (yX1_init, cX1_init, 2, none, 1, 1, 1), (yX1_has, cX1_has, 3, (some .boolean), 1, 0, 2), (yX1_size, cX1_size, 2, (some .int), 1, 1, 1), (yX1_sizeWithin, cX1_sizeWithin, 6, (some .int), 1, 1, 3), (yX1_gapsWithin, cX1_gapsWithin, 8, (some .int), 1, 1, 3), (yX1_set, cX1_set, 6, none, 1, 0, 3), (yX1_sizeOfAll, cX1_sizeOfAll, 3, (some .int), 1, 1, 0), (yX1_clear, cX1_clear, 2, none, 1, 0, 0), (yX1_copyFrom, cX1_copyFrom, 3, none, 1, 1, 1), (yX2_init, cX2_init, 1, none, 2, 2, 0), (yX2_copyFrom, cX2_copyFrom, 2, none, 2, 2, 1), (yX2_slots, cX2_slots, 1, (some .int), 2, 0, 0), (yX2_knowsSlot, cX2_knowsSlot, 2, (some .boolean), 2, 1, 1), (yX2_firstOfDayOf, cX2_firstOfDayOf, 2, (some .int), 2, 0, 1), (yX2_isHoliday, cX2_isHoliday, 2, (some .boolean), 2, 1, 1), (yX2_setHoliday, cX2_setHoliday, 3, none, 2, 1, 2), (yX2_allHolidays, cX2_allHolidays, 1, (some .int), 2, 2, 0), (yX2_openBefore, cX2_openBefore, 4, (some .int), 2, 2, 1), (yX2_dayAfter, cX2_dayAfter, 2, (some .int), 2, 0, 1), (yX2_knowsCourse, cX2_knowsCourse, 2, (some .boolean), 2, 1, 1), (yX2_knowsRoom, cX2_knowsRoom, 2, (some .boolean), 2, 1, 1), (yX2_fact, cX2_fact, 3, (some .int), 2, 1, 2), (yX2_isFor, cX2_isFor, 5, (some .boolean), 2, 2, 3), (yX2_rowOfHalf, cX2_rowOfHalf, 2, (some .int), 2, 0, 2), (yX2_coursesOfTeacher, cX2_coursesOfTeacher, 4, (some .int), 2, 2, 1), (yX2_lessonsOfTeacher, cX2_lessonsOfTeacher, 4, (some .int), 2, 2, 1), (yX2_knowsLesson, cX2_knowsLesson, 3, (some .boolean), 2, 2, 2), (yX2_setLesson, cX2_setLesson, 5, none, 2, 2, 4), (yX2_setHalves, cX2_setHalves, 6, none, 2, 1, 4), (yX2_rowInRoom, cX2_rowInRoom, 2, (some .int), 2, 0, 2), (yX2_isInRoom, cX2_isInRoom, 4, (some .boolean), 2, 1, 3), (yX2_roomOf, cX2_roomOf, 4, (some .int), 2, 2, 2), (yX2_placed, cX2_placed, 2, (some .int), 2, 2, 1), (yX2_missing, cX2_missing, 2, (some .int), 2, 3, 1), (yX2_allPlaced, cX2_allPlaced, 1, (some .int), 2, 2, 0), (yX2_allMissing, cX2_allMissing, 3, (some .int), 2, 4, 0)]
def ri_M1 : List ri_Row := [(yX2_lessonsIn, cX2_lessonsIn, 4, (some .int), 2, 1, 1), (yX2_mostOnADay, cX2_mostOnADay, 4, (some .int), 2, 2, 1), (yX2_windows, cX2_windows, 5, (some .int), 2, 2, 2), (yX2_errorOfPlacing, cX2_errorOfPlacing, 4, (some .int), 2, 5, 3), (yX2_firstReason, cX2_firstReason, 5, (some .int), 2, 4, 3), (yX2_reasonOfSlot, cX2_reasonOfSlot, 5, (some .int), 2, 3, 2), (yX2_reasonOfRoom, cX2_reasonOfRoom, 5, (some .int), 2, 2, 3), (yX2_hasBusyGroup, cX2_hasBusyGroup, 4, (some .boolean), 2, 2, 2), (yX2_isBusy, cX2_isBusy, 5, (some .boolean), 2, 1, 3), (yX2_lowestFreeRoom, cX2_lowestFreeRoom, 4, (some .int), 2, 4, 2), (yX2_freePlaces, cX2_freePlaces, 4, (some .int), 2, 4, 1), (yX2_freeRooms, cX2_freeRooms, 5, (some .int), 2, 3, 2), (yX3_init, cX3_init, 1, none, 3, 2, 0), (yX4_init, cX4_init, 2, none, 4, 3, 0), (yX4_setCycle, cX4_setCycle, 3, (some .int), 4, 4, 2), (yX4_holiday, cX4_holiday, 3, (some .int), 4, 4, 2), (yX4_addGroup, cX4_addGroup, 2, (some .int), 4, 4, 0), (yX4_addTeacher, cX4_addTeacher, 4, (some .int), 4, 4, 2), (yX4_addRoom, cX4_addRoom, 3, (some .int), 4, 4, 1), (yX4_addCourse, cX4_addCourse, 7, (some .int), 4, 4, 5), (yX4_join, cX4_join, 3, (some .int), 4, 4, 2), (yX4_bar, cX4_bar, 4, (some .int), 4, 4, 3), (yX4_place, cX4_place, 5, (some .int), 4, 6, 3), (yX4_takeAway, cX4_takeAway, 3, (some .int), 4, 4, 2), (yX4_move, cX4_move, 6, (some .int), 4, 5, 4), (yX4_swap, cX4_swap, 7, (some .int), 4, 5, 4), (yX4_fill, cX4_fill, 5, (some .int), 4, 5, 1), (yX4_undo, cX4_undo, 1, (some .int), 4, 3, 0), (yX4_keep, cX4_keep, 1, (some .int), 4, 3, 0), (yX4_restore, cX4_restore, 1, (some .int), 4, 4, 0), (yX4_course, cX4_course, 3, (some .int), 4, 5, 2), (yX4_lessonAt, cX4_lessonAt, 5, (some .int), 4, 3, 2), (yX4_groupAt, cX4_groupAt, 5, (some .int), 4, 3, 3), (yX4_roomAt, cX4_roomAt, 4, (some .int), 4, 2, 2), (yX4_teacherAt, cX4_teacherAt, 4, (some .int), 4, 2, 2), (yX4_teacher, cX4_teacher, 3, (some .int), 4, 3, 2), (yX4_room, cX4_room, 3, (some .int), 4, 2, 2), (yX4_dayOf, cX4_dayOf, 2, (some .int), 4, 3, 1), (yX4_count, cX4_count, 2, (some .int), 4, 5, 1), (yX4_isIn, cX4_isIn, 3, (some .boolean), 4, 0, 3)]
def ri_M2 : List ri_Row := [(yX4_isDate, cX4_isDate, 1, (some .boolean), 4, 1, 1), (yX4_knowsGroup, cX4_knowsGroup, 2, (some .boolean), 4, 1, 1), (yX4_knowsTeacher, cX4_knowsTeacher, 2, (some .boolean), 4, 1, 1), (yX4_knowsCourse, cX4_knowsCourse, 2, (some .boolean), 4, 2, 1), (yX4_remember, cX4_remember, 2, none, 4, 3, 0), (yX4_adoptTrial, cX4_adoptTrial, 1, none, 4, 4, 0), (yX4_historyAt, cX4_historyAt, 3, (some (.object RX2)), 4, 0, 1), (yJ13_bitCount_95d88, cJ13_bitCount_95d88, 2, (some .int), 6, 0, 1), (yL_cell, cL_cell, 2, (some .int), 7, 0, 2), (yL_up, cL_up, 2, (some .int), 7, 0, 2), (yL_view, cL_view, 5, (some .long), 7, 6, 1), (yL_any, cL_any, 3, (some .int), 7, 7, 3), (yL_setsUp, cL_setsUp, 3, (some .int), 7, 5, 3), (yL_turn, cL_turn, 6, (some .int), 7, 8, 4), (yL_some, cL_some, 4, (some .int), 7, 6, 3), (yL_isTeacher, cL_isTeacher, 7, (some .boolean), 7, 6, 2), (yL_isCourse, cL_isCourse, 9, (some .boolean), 7, 6, 2), (yL_areRight, cL_areRight, 5, (some .boolean), 7, 7, 1), (yL_isUndone, cL_isUndone, 10, (some .boolean), 7, 9, 6), (yL_isKept, cL_isKept, 5, (some .boolean), 7, 9, 3), (yL_law, cL_law, 12, (some .boolean), 7, 10, 1)]
def ri_M : List ri_Row := ri_M0 ++ (ri_M1 ++ (ri_M2))
def ri_row (y : Nat) : ri_Row := ri_M.getD y (yL_law, cL_law, 0, none, 0, 0, 0)
def ri_nm (y : Nat) : MethodName := (ri_row y).1
def ri_bc (y : Nat) : ByteArray := (ri_row y).2.1
def ri_ml (y : Nat) : Nat := (ri_row y).2.2.1
def ri_rt (y : Nat) : Option FieldType := (ri_row y).2.2.2.1
def ri_ow (y : Nat) : Nat := (ri_row y).2.2.2.2.1
def ri_rk (y : Nat) : Nat := (ri_row y).2.2.2.2.2.1
def ri_na (y : Nat) : Nat := (ri_row y).2.2.2.2.2.2
def ri_owns : List String := [RX0, RX1, RX2, RX3, RX4, RX5, RJ13, RL]
def ri_on (o : Nat) : String := ri_owns.getD o RL
/-- a field's link: own class, pool number; class, place; where its word stands in lw_tbl -/
def ri_FL : List (Nat × Nat × Nat × Nat × Nat) := [(4, 10, 4, 0, 153), (4, 16, 4, 1, 154), (4, 19, 4, 2, 155), (4, 22, 4, 3, 156), (4, 26, 4, 4, 157), (4, 30, 4, 5, 158), (4, 34, 4, 6, 159), (4, 40, 4, 7, 160), (4, 52, 2, 0, 66), (4, 55, 2, 1, 68), (4, 61, 2, 10, 85), (4, 87, 2, 2, 70), (4, 90, 2, 3, 72), (4, 93, 2, 6, 78), (4, 103, 2, 4, 74), (4, 106, 2, 7, 80), (4, 115, 2, 5, 76), (4, 118, 2, 8, 82), (4, 138, 2, 13, 90), (4, 184, 3, 0, 137), (4, 210, 2, 12, 88), (4, 241, 2, 14, 92), (0, 7, 0, 0, 45), (0, 19, 0, 1, 46), (1, 13, 1, 0, 60), (2, 9, 2, 0, 65), (2, 15, 2, 1, 67), (2, 18, 2, 2, 69), (2, 21, 2, 3, 71), (2, 24, 2, 4, 73), (2, 27, 2, 5, 75), (2, 35, 2, 6, 77), (2, 39, 2, 7, 79), (2, 42, 2, 8, 81), (2, 50, 2, 9, 83), (2, 54, 2, 10, 84), (2, 57, 2, 11, 86), (2, 60, 2, 12, 87), (2, 63, 2, 13, 89), (2, 66, 2, 14, 91), (2, 69, 2, 15, 93), (3, 9, 3, 0, 136), (3, 15, 3, 1, 138), (3, 23, 3, 2, 139), (3, 27, 3, 3, 140), (3, 30, 3, 4, 141)]
def ri_ML : List (Nat × Nat × Nat × Nat × List Nat) := [(4, 1, 4, 0, [27, 28, 29]), (4, 9, 3, 13, [32, 33, 15]), (4, 39, 3, 52, [130, 131, 19]), (4, 44, 1, 79, [214, 215, 14]), (4, 48, 0, 38, [229, 230, 231, 15]), (4, 58, 0, 84, [182, 184, 0, 14]), (4, 65, 0, 11, [523, 524, 525, 18]), (4, 70, 0, 15, [382, 347, 348, 15]), (4, 73, 1, 80, [399, 400, 14]), (4, 77, 0, 18, [402, 403, 404, 15]), (4, 80, 0, 19, [429, 430, 431, 15]), (4, 84, 0, 20, [267, 268, 269, 15]), (4, 97, 0, 2, [217, 218, 219, 16]), (4, 109, 0, 81, [442, 444, 10, 14]), (4, 112, 0, 82, [284, 286, 2, 14]), (4, 121, 0, 83, [332, 334, 3, 14]), (4, 124, 0, 25, [340, 252, 253, 15]), (4, 128, 0, 36, [341, 260, 261, 15]), (4, 132, 0, 37, [450, 248, 249, 15]), (4, 135, 0, 16, [455, 456, 457, 15]), (4, 141, 0, 5, [383, 312, 313, 18]), (4, 145, 0, 9, [459, 434, 435, 18]), (4, 148, 0, 6, [289, 264, 265, 18]), (4, 151, 0, 43, [464, 465, 466, 15]), (4, 155, 0, 31, [475, 476, 477, 15]), (4, 159, 0, 30, [502, 503, 504, 15]), (4, 162, 0, 35, [384, 385, 386, 15]), (4, 165, 0, 24, [323, 324, 325, 15]), (4, 168, 0, 14, [190, 191, 192, 15]), (4, 172, 0, 44, [510, 472, 473, 15]), (4, 175, 0, 85, [491, 493, 12, 14]), (4, 178, 0, 40, [515, 516, 517, 15]), (4, 181, 0, 49, [487, 488, 489, 15]), (4, 200, 0, 1, [288, 256, 257, 16]), (4, 203, 0, 86, [186, 188, 1, 14]), (4, 207, 0, 50, [342, 343, 344, 15]), (4, 213, 0, 26, [549, 550, 551, 15]), (4, 216, 0, 34, [540, 389, 390, 15]), (4, 219, 0, 28, [290, 291, 292, 15]), (4, 222, 0, 41, [294, 295, 296, 15]), (4, 225, 0, 42, [303, 304, 305, 15]), (4, 229, 0, 29, [315, 316, 317, 15]), (4, 244, 0, 21, [406, 407, 408, 15]), (4, 247, 0, 22, [411, 412, 413, 15]), (4, 250, 0, 39, [243, 244, 245, 15]), (4, 253, 0, 23, [336, 337, 338, 15]), (0, 1, 4, 0, [41, 28, 29]), (0, 13, 6, 0, [42, 43, 17, 44]), (0, 23, 5, 0, [198, 199, 17, 200]), (0, 26, 7, 0, [201, 203, 202, 20]), (1, 1, 4, 0, [58, 28, 29]), (1, 7, 6, 0, [59, 43, 17, 44]), (1, 19, 1, 87, [237, 238, 21]), (1, 25, 0, 5, [311, 312, 313, 18]), (1, 31, 5, 0, [208, 199, 17, 200]), (1, 34, 7, 0, [209, 203, 202, 20]), (2, 3, 4, 0, [35, 28, 29]), (2, 32, 3, 0, [38, 39, 16]), (2, 47, 3, 4, [55, 56, 18]), (2, 72, 0, 3, [194, 195, 196, 16]), (2, 76, 0, 12, [204, 205, 206, 18]), (2, 79, 0, 15, [346, 347, 348, 15]), (2, 83, 2, 79, [327, 215, 14]), (2, 87, 0, 5, [358, 312, 313, 18]), (2, 91, 0, 9, [433, 434, 435, 18]), (2, 95, 0, 10, [233, 234, 235, 18]), (2, 98, 0, 18, [410, 403, 404, 15]), (2, 102, 0, 1, [255, 256, 257, 16]), (2, 106, 0, 25, [251, 252, 253, 15]), (2, 109, 0, 23, [468, 337, 338, 15]), (2, 112, 0, 16, [469, 456, 457, 15]), (2, 115, 1, 33, [392, 393, 15]), (2, 118, 0, 32, [479, 481, 11, 15]), (2, 122, 1, 27, [367, 368, 15]), (2, 125, 0, 34, [388, 389, 390, 15]), (2, 128, 0, 6, [263, 264, 265, 18]), (2, 132, 0, 36, [259, 260, 261, 15]), (2, 135, 0, 37, [247, 248, 249, 15]), (2, 141, 0, 7, [298, 299, 300, 18]), (2, 145, 6, 0, [302, 43, 17, 44]), (2, 150, 0, 8, [307, 308, 309, 18]), (2, 153, 0, 24, [470, 324, 325, 15]), (2, 156, 0, 44, [471, 472, 473, 15]), (2, 159, 0, 45, [350, 352, 4, 15]), (2, 162, 0, 46, [374, 376, 9, 15]), (2, 165, 0, 17, [354, 356, 5, 15]), (2, 168, 0, 47, [359, 361, 6, 15]), (2, 171, 0, 48, [363, 365, 7, 15]), (2, 174, 0, 51, [370, 372, 8, 15]), (3, 3, 4, 0, [133, 28, 29]), (3, 20, 3, 0, [135, 39, 16]), (7, 9, 0, 78, [225, 226, 227, 14]), (7, 19, 0, 75, [280, 281, 282, 14]), (7, 23, 0, 76, [319, 320, 321, 14]), (7, 26, 0, 70, [328, 329, 330, 14]), (7, 29, 0, 71, [378, 379, 380, 14]), (7, 32, 0, 77, [395, 396, 397, 14]), (7, 35, 0, 54, [519, 520, 521, 14]), (7, 38, 0, 57, [210, 211, 212, 14]), (7, 41, 0, 59, [438, 439, 440, 14]), (7, 45, 0, 60, [446, 447, 448, 14]), (7, 48, 0, 62, [460, 461, 462, 14]), (7, 52, 0, 64, [506, 507, 508, 14]), (7, 56, 0, 66, [483, 484, 485, 14]), (7, 59, 0, 55, [425, 426, 427, 14]), (7, 63, 0, 56, [178, 179, 180, 14]), (7, 67, 1, 89, [418, 419, 13]), (7, 72, 0, 58, [221, 222, 223, 14]), (7, 75, 1, 92, [422, 423, 13]), (7, 79, 0, 61, [451, 452, 453, 14]), (7, 83, 1, 94, [495, 496, 13]), (7, 86, 0, 63, [498, 499, 500, 14]), (7, 89, 0, 65, [511, 512, 513, 14]), (7, 92, 1, 91, [527, 528, 13]), (7, 95, 0, 74, [541, 542, 543, 14]), (7, 98, 0, 73, [536, 537, 538, 14]), (7, 101, 0, 72, [545, 546, 547, 14]), (7, 104, 1, 96, [533, 534, 13]), (7, 108, 1, 95, [553, 554, 13]), (7, 111, 1, 90, [275, 276, 13]), (7, 115, 0, 67, [559, 560, 561, 14]), (7, 118, 1, 93, [415, 416, 13]), (7, 122, 0, 68, [566, 567, 568, 14]), (7, 125, 0, 69, [570, 571, 572, 14]), (7, 128, 3, 53, [24, 25, 14]), (7, 129, 1, 88, [271, 272, 13]), (7, 133, 1, 98, [556, 557, 13]), (7, 137, 1, 99, [563, 564, 13]), (7, 141, 1, 97, [530, 531, 13])]
def ri_CL : List (Nat × Nat × Nat × Nat × Nat × Nat) := [(7, 10, 4, 22, 23, 14), (4, 7, 2, 30, 31, 15), (2, 30, 0, 36, 37, 16), (2, 45, 1, 53, 54, 18), (4, 37, 3, 128, 129, 19), (3, 18, 0, 134, 37, 16)]
def ri_LL : List (Nat × Nat × Int × Nat) := [(6, 314, 6148914691236517205, 240), (6, 316, 3689348814741910323, 241), (6, 318, 1085102592571150095, 242), (7, 15, 7, 278), (7, 17, 31, 279), (1, 29, -1, 437)]
/-- constants of ints -/
def ri_DL : List (Nat × Nat × Int × Nat) := [(7, 7, 763049417, 274), (7, 8, 2147483647, 421)]
/-- calls of a class's private method out of its nest mates -/
def ri_nl : List (String × Nat) := [(RX2, 83)]
/-- the words that a link stands for, by its kind: 0 an object's method, 1 a static one, 2 a static one of a nest mate, 3 a constructor, 4 Object's, 5 Math.min, 6 Math.max, 7 System.arraycopy -/
def ri_mw (e : Nat × Nat × Nat × Nat × List Nat) : List Jvm.Cond := match e.2.2.1 with
  | 0 => [.methodLink (ri_on e.1) e.2.1 (ri_nm e.2.2.2.1), .instanceMethod (ri_nm e.2.2.2.1), .selects (ri_nm e.2.2.2.1).cls (ri_nm e.2.2.2.1) (ri_nm e.2.2.2.1), .initialized (ri_nm e.2.2.2.1).cls]
  | 1 => [.methodLink (ri_on e.1) e.2.1 (ri_nm e.2.2.2.1), .static (ri_nm e.2.2.2.1), .initialized (ri_nm e.2.2.2.1).cls]
  | 2 => [.methodLinkNest (ri_on e.1) e.2.1 (ri_nm e.2.2.2.1) RX4, .static (ri_nm e.2.2.2.1), .initialized (ri_nm e.2.2.2.1).cls]
  | 3 => [.methodLink (ri_on e.1) e.2.1 (ri_nm e.2.2.2.1), .instanceMethod (ri_nm e.2.2.2.1), .initialized (ri_nm e.2.2.2.1).cls]
  | 4 => [.methodLink (ri_on e.1) e.2.1 objectInit, .instanceMethod objectInit, .code objectInit ⟨#[0xb1]⟩ 1 none]
  | 5 => [.methodLink (ri_on e.1) e.2.1 Lib.Math.min.name, .static Lib.Math.min.name, .initialized "java/lang/Math", .code Lib.Math.min.name Lib.Math.min.code 2 (some .int)]
  | 6 => [.methodLink (ri_on e.1) e.2.1 Lib.Math.max.name, .static Lib.Math.max.name, .initialized "java/lang/Math", .code Lib.Math.max.name Lib.Math.max.code 2 (some .int)]
  | _ => [.methodLink (ri_on e.1) e.2.1 arraycopyName, .native arraycopyName, .static arraycopyName, .initialized "java/lang/System"]
def ri_cls (ci : Nat) : vw_C := vwCl.getD ci (RX0, TX0, 0)
def ri_cw (e : Nat × Nat × Nat × Nat × Nat × Nat) : List Jvm.Cond := [.classLink (ri_on e.1) e.2.1 (ri_cls e.2.2.1).1, .instantiable (ri_cls e.2.2.1).1 (ri_cls e.2.2.1).2.2, .initialized (ri_cls e.2.2.1).1]
def ri_fw (e : Nat × Nat × Nat × Nat × Nat) : Jvm.Cond := .fieldLink (ri_on e.1) e.2.1 ((ri_cls e.2.2.1).2.1 e.2.2.2.1).1 ((ri_cls e.2.2.1).2.1 e.2.2.2.1).2.1 ((ri_cls e.2.2.1).2.1 e.2.2.2.1).2.2.1
def ri_lw (e : Nat × Nat × Int × Nat) : Jvm.Cond := .constantLong (ri_on e.1) e.2.1 (Int64.ofInt e.2.2.1)
def ri_dw (e : Nat × Nat × Int × Nat) : Jvm.Cond := .constant (ri_on e.1) e.2.1 (Int32.ofInt e.2.2.1)
set_option maxRecDepth 100000 in
theorem ri_ML_ok : ∀ e ∈ ri_ML, e.2.2.2.2.map (fun i => lw_tbl[i]?) = (ri_mw e).map some := by decide +kernel
set_option maxRecDepth 100000 in
theorem ri_ML_good : ∀ e ∈ ri_ML, (ri_mw e).all (fun w => goodWord w || decide (e.2.2.1 = 2)) = true := by decide +kernel
set_option maxRecDepth 100000 in
theorem ri_ML_nest : ∀ e ∈ ri_ML, e.2.2.1 = 2 → (ri_on e.1, e.2.1) ∈ ri_nl := by decide +kernel
set_option maxRecDepth 100000 in
theorem ri_ML_nest2 : ∀ e ∈ ri_ML, e.2.2.1 = 2 → (ri_mw e).tail.all goodWord = true ∧ ri_nm e.2.2.2.1 = yX4_isIn := by decide +kernel
set_option maxRecDepth 100000 in
theorem ri_ML_init : ∀ e ∈ ri_ML, e.2.2.1 = 3 → (ri_nm e.2.2.2.1).name = "<init>" ∧ ri_rt e.2.2.2.1 = none := by decide +kernel
set_option maxRecDepth 100000 in
theorem ri_CL_ok : ∀ e ∈ ri_CL, [lw_tbl[e.2.2.2.1]?, lw_tbl[e.2.2.2.2.1]?, lw_tbl[e.2.2.2.2.2]?] = (ri_cw e).map some ∧ (ri_cw e).all goodWord = true ∧ e.2.2.1 < 5 := by decide +kernel
set_option maxRecDepth 100000 in
theorem ri_FL_ok : ∀ e ∈ ri_FL, lw_tbl[e.2.2.2.2]? = some (ri_fw e) ∧ goodWord (ri_fw e) = true ∧ e.2.2.1 < 5 ∧ e.2.2.2.1 < (ri_cls e.2.2.1).2.2 := by decide +kernel
set_option maxRecDepth 100000 in
theorem ri_LL_ok : ∀ e ∈ ri_LL, lw_tbl[e.2.2.2]? = some (ri_lw e) ∧ goodWord (ri_lw e) = true := by decide +kernel
set_option maxRecDepth 100000 in
theorem ri_DL_ok : ∀ e ∈ ri_DL, lw_tbl[e.2.2.2]? = some (ri_dw e) ∧ goodWord (ri_dw e) = true := by decide +kernel
set_option maxRecDepth 100000 in
theorem ri_M_ok : ∀ r ∈ ri_M, plainName r.1.cls = true ∧ (r.1.cls ≠ "java/lang/invoke/MethodHandle" ∧ r.1.cls ≠ "java/lang/invoke/VarHandle" ∧ (parseMethodDescriptor r.1.desc).map (fun d => d.parameters.length) = some r.2.2.2.2.2.2) ∧ r.1.cls = ri_on r.2.2.2.2.1 ∧ r.2.2.1 ≤ 15 := by decide +kernel
/-- the words that go with every method of the system -/
def ri_WS : List Jvm.Cond := lw_tbl.filter goodWord
set_option maxRecDepth 100000 in
theorem ri_lays : ∀ ci, ci < 5 → (u_ws (ri_cls ci).1 (ri_cls ci).2.1 (ri_cls ci).2.2).all (fun w => decide (w ∈ lw_tbl) && goodWord w) = true := by decide +kernel
set_option maxRecDepth 100000 in
theorem ri_arrs : [Jvm.Cond.arrayClass .int, .arrayClass .long, .classLink RX4 7 RX2].all (fun w => decide (w ∈ lw_tbl) && goodWord w) = true := by decide +kernel
set_option maxRecDepth 100000 in
theorem ri_over : Jvm.Cond.arrayOver (.object RX2) ∈ lw_tbl := by decide +kernel
set_option maxRecDepth 100000 in
theorem ri_nests : ∀ q ∈ ri_nl, Jvm.Cond.methodLinkNest q.1 q.2 yX4_isIn RX4 ∈ lw_tbl := by decide +kernel
set_option maxRecDepth 100000 in
theorem ri_cd0 : lw_tbl[40]? = some (Jvm.Cond.code yX0_init cX0_init 3 none) := by rfl
set_option maxRecDepth 100000 in
theorem ri_cd1 : lw_tbl[258]? = some (Jvm.Cond.code yX0_get cX0_get 4 (some .int)) := by rfl
set_option maxRecDepth 100000 in
theorem ri_cd2 : lw_tbl[220]? = some (Jvm.Cond.code yX0_set cX0_set 5 none) := by rfl
set_option maxRecDepth 100000 in
theorem ri_cd3 : lw_tbl[197]? = some (Jvm.Cond.code yX0_copyFrom cX0_copyFrom 3 none) := by rfl
set_option maxRecDepth 100000 in
theorem ri_cd4 : lw_tbl[57]? = some (Jvm.Cond.code yX1_init cX1_init 2 none) := by rfl
set_option maxRecDepth 100000 in
theorem ri_cd5 : lw_tbl[314]? = some (Jvm.Cond.code yX1_has cX1_has 3 (some .boolean)) := by rfl
set_option maxRecDepth 100000 in
theorem ri_cd6 : lw_tbl[266]? = some (Jvm.Cond.code yX1_size cX1_size 2 (some .int)) := by rfl
set_option maxRecDepth 100000 in
theorem ri_cd7 : lw_tbl[301]? = some (Jvm.Cond.code yX1_sizeWithin cX1_sizeWithin 6 (some .int)) := by rfl
set_option maxRecDepth 100000 in
theorem ri_cd8 : lw_tbl[310]? = some (Jvm.Cond.code yX1_gapsWithin cX1_gapsWithin 8 (some .int)) := by rfl
set_option maxRecDepth 100000 in
theorem ri_cd9 : lw_tbl[436]? = some (Jvm.Cond.code yX1_set cX1_set 6 none) := by rfl
set_option maxRecDepth 100000 in
theorem ri_cd10 : lw_tbl[236]? = some (Jvm.Cond.code yX1_sizeOfAll cX1_sizeOfAll 3 (some .int)) := by rfl
set_option maxRecDepth 100000 in
theorem ri_cd11 : lw_tbl[526]? = some (Jvm.Cond.code yX1_clear cX1_clear 2 none) := by rfl
set_option maxRecDepth 100000 in
theorem ri_cd12 : lw_tbl[207]? = some (Jvm.Cond.code yX1_copyFrom cX1_copyFrom 3 none) := by rfl
set_option maxRecDepth 100000 in
theorem ri_cd13 : lw_tbl[34]? = some (Jvm.Cond.code yX2_init cX2_init 1 none) := by rfl
set_option maxRecDepth 100000 in
theorem ri_cd14 : lw_tbl[193]? = some (Jvm.Cond.code yX2_copyFrom cX2_copyFrom 2 none) := by rfl
set_option maxRecDepth 100000 in
theorem ri_cd15 : lw_tbl[349]? = some (Jvm.Cond.code yX2_slots cX2_slots 1 (some .int)) := by rfl
set_option maxRecDepth 100000 in
theorem ri_cd16 : lw_tbl[458]? = some (Jvm.Cond.code yX2_knowsSlot cX2_knowsSlot 2 (some .boolean)) := by rfl
set_option maxRecDepth 100000 in
theorem ri_cd17 : lw_tbl[357]? = some (Jvm.Cond.code yX2_firstOfDayOf cX2_firstOfDayOf 2 (some .int)) := by rfl
set_option maxRecDepth 100000 in
theorem ri_cd18 : lw_tbl[405]? = some (Jvm.Cond.code yX2_isHoliday cX2_isHoliday 2 (some .boolean)) := by rfl
set_option maxRecDepth 100000 in
theorem ri_cd19 : lw_tbl[432]? = some (Jvm.Cond.code yX2_setHoliday cX2_setHoliday 3 none) := by rfl
set_option maxRecDepth 100000 in
theorem ri_cd20 : lw_tbl[270]? = some (Jvm.Cond.code yX2_allHolidays cX2_allHolidays 1 (some .int)) := by rfl
set_option maxRecDepth 100000 in
theorem ri_cd21 : lw_tbl[409]? = some (Jvm.Cond.code yX2_openBefore cX2_openBefore 4 (some .int)) := by rfl
set_option maxRecDepth 100000 in
theorem ri_cd22 : lw_tbl[414]? = some (Jvm.Cond.code yX2_dayAfter cX2_dayAfter 2 (some .int)) := by rfl
set_option maxRecDepth 100000 in
theorem ri_cd23 : lw_tbl[339]? = some (Jvm.Cond.code yX2_knowsCourse cX2_knowsCourse 2 (some .boolean)) := by rfl
set_option maxRecDepth 100000 in
theorem ri_cd24 : lw_tbl[326]? = some (Jvm.Cond.code yX2_knowsRoom cX2_knowsRoom 2 (some .boolean)) := by rfl
set_option maxRecDepth 100000 in
theorem ri_cd25 : lw_tbl[254]? = some (Jvm.Cond.code yX2_fact cX2_fact 3 (some .int)) := by rfl
set_option maxRecDepth 100000 in
theorem ri_cd26 : lw_tbl[552]? = some (Jvm.Cond.code yX2_isFor cX2_isFor 5 (some .boolean)) := by rfl
set_option maxRecDepth 100000 in
theorem ri_cd27 : lw_tbl[369]? = some (Jvm.Cond.code yX2_rowOfHalf cX2_rowOfHalf 2 (some .int)) := by rfl
set_option maxRecDepth 100000 in
theorem ri_cd28 : lw_tbl[293]? = some (Jvm.Cond.code yX2_coursesOfTeacher cX2_coursesOfTeacher 4 (some .int)) := by rfl
set_option maxRecDepth 100000 in
theorem ri_cd29 : lw_tbl[318]? = some (Jvm.Cond.code yX2_lessonsOfTeacher cX2_lessonsOfTeacher 4 (some .int)) := by rfl
set_option maxRecDepth 100000 in
theorem ri_cd30 : lw_tbl[505]? = some (Jvm.Cond.code yX2_knowsLesson cX2_knowsLesson 3 (some .boolean)) := by rfl
set_option maxRecDepth 100000 in
theorem ri_cd31 : lw_tbl[478]? = some (Jvm.Cond.code yX2_setLesson cX2_setLesson 5 none) := by rfl
set_option maxRecDepth 100000 in
theorem ri_cd32 : lw_tbl[482]? = some (Jvm.Cond.code yX2_setHalves cX2_setHalves 6 none) := by rfl
set_option maxRecDepth 100000 in
theorem ri_cd33 : lw_tbl[394]? = some (Jvm.Cond.code yX2_rowInRoom cX2_rowInRoom 2 (some .int)) := by rfl
set_option maxRecDepth 100000 in
theorem ri_cd34 : lw_tbl[391]? = some (Jvm.Cond.code yX2_isInRoom cX2_isInRoom 4 (some .boolean)) := by rfl
set_option maxRecDepth 100000 in
theorem ri_cd35 : lw_tbl[387]? = some (Jvm.Cond.code yX2_roomOf cX2_roomOf 4 (some .int)) := by rfl
set_option maxRecDepth 100000 in
theorem ri_cd36 : lw_tbl[262]? = some (Jvm.Cond.code yX2_placed cX2_placed 2 (some .int)) := by rfl
set_option maxRecDepth 100000 in
theorem ri_cd37 : lw_tbl[250]? = some (Jvm.Cond.code yX2_missing cX2_missing 2 (some .int)) := by rfl
set_option maxRecDepth 100000 in
theorem ri_cd38 : lw_tbl[232]? = some (Jvm.Cond.code yX2_allPlaced cX2_allPlaced 1 (some .int)) := by rfl
set_option maxRecDepth 100000 in
theorem ri_cd39 : lw_tbl[246]? = some (Jvm.Cond.code yX2_allMissing cX2_allMissing 3 (some .int)) := by rfl
set_option maxRecDepth 100000 in
theorem ri_cd40 : lw_tbl[518]? = some (Jvm.Cond.code yX2_lessonsIn cX2_lessonsIn 4 (some .int)) := by rfl
set_option maxRecDepth 100000 in
theorem ri_cd41 : lw_tbl[297]? = some (Jvm.Cond.code yX2_mostOnADay cX2_mostOnADay 4 (some .int)) := by rfl
set_option maxRecDepth 100000 in
theorem ri_cd42 : lw_tbl[306]? = some (Jvm.Cond.code yX2_windows cX2_windows 5 (some .int)) := by rfl
set_option maxRecDepth 100000 in
theorem ri_cd43 : lw_tbl[467]? = some (Jvm.Cond.code yX2_errorOfPlacing cX2_errorOfPlacing 4 (some .int)) := by rfl
set_option maxRecDepth 100000 in
theorem ri_cd44 : lw_tbl[474]? = some (Jvm.Cond.code yX2_firstReason cX2_firstReason 5 (some .int)) := by rfl
set_option maxRecDepth 100000 in
theorem ri_cd45 : lw_tbl[353]? = some (Jvm.Cond.code yX2_reasonOfSlot cX2_reasonOfSlot 5 (some .int)) := by rfl
set_option maxRecDepth 100000 in
theorem ri_cd46 : lw_tbl[377]? = some (Jvm.Cond.code yX2_reasonOfRoom cX2_reasonOfRoom 5 (some .int)) := by rfl
set_option maxRecDepth 100000 in
theorem ri_cd47 : lw_tbl[362]? = some (Jvm.Cond.code yX2_hasBusyGroup cX2_hasBusyGroup 4 (some .boolean)) := by rfl
set_option maxRecDepth 100000 in
theorem ri_cd48 : lw_tbl[366]? = some (Jvm.Cond.code yX2_isBusy cX2_isBusy 5 (some .boolean)) := by rfl
set_option maxRecDepth 100000 in
theorem ri_cd49 : lw_tbl[490]? = some (Jvm.Cond.code yX2_lowestFreeRoom cX2_lowestFreeRoom 4 (some .int)) := by rfl
set_option maxRecDepth 100000 in
theorem ri_cd50 : lw_tbl[345]? = some (Jvm.Cond.code yX2_freePlaces cX2_freePlaces 4 (some .int)) := by rfl
set_option maxRecDepth 100000 in
theorem ri_cd51 : lw_tbl[373]? = some (Jvm.Cond.code yX2_freeRooms cX2_freeRooms 5 (some .int)) := by rfl
set_option maxRecDepth 100000 in
theorem ri_cd52 : lw_tbl[132]? = some (Jvm.Cond.code yX3_init cX3_init 1 none) := by rfl
set_option maxRecDepth 100000 in
theorem ri_cd53 : lw_tbl[26]? = some (Jvm.Cond.code yX4_init cX4_init 2 none) := by rfl
set_option maxRecDepth 100000 in
theorem ri_cd54 : lw_tbl[522]? = some (Jvm.Cond.code yX4_setCycle cX4_setCycle 3 (some .int)) := by rfl
set_option maxRecDepth 100000 in
theorem ri_cd55 : lw_tbl[428]? = some (Jvm.Cond.code yX4_holiday cX4_holiday 3 (some .int)) := by rfl
set_option maxRecDepth 100000 in
theorem ri_cd56 : lw_tbl[181]? = some (Jvm.Cond.code yX4_addGroup cX4_addGroup 2 (some .int)) := by rfl
set_option maxRecDepth 100000 in
theorem ri_cd57 : lw_tbl[213]? = some (Jvm.Cond.code yX4_addTeacher cX4_addTeacher 4 (some .int)) := by rfl
set_option maxRecDepth 100000 in
theorem ri_cd58 : lw_tbl[224]? = some (Jvm.Cond.code yX4_addRoom cX4_addRoom 3 (some .int)) := by rfl
set_option maxRecDepth 100000 in
theorem ri_cd59 : lw_tbl[441]? = some (Jvm.Cond.code yX4_addCourse cX4_addCourse 7 (some .int)) := by rfl
set_option maxRecDepth 100000 in
theorem ri_cd60 : lw_tbl[449]? = some (Jvm.Cond.code yX4_join cX4_join 3 (some .int)) := by rfl
set_option maxRecDepth 100000 in
theorem ri_cd61 : lw_tbl[454]? = some (Jvm.Cond.code yX4_bar cX4_bar 4 (some .int)) := by rfl
set_option maxRecDepth 100000 in
theorem ri_cd62 : lw_tbl[463]? = some (Jvm.Cond.code yX4_place cX4_place 5 (some .int)) := by rfl
set_option maxRecDepth 100000 in
theorem ri_cd63 : lw_tbl[501]? = some (Jvm.Cond.code yX4_takeAway cX4_takeAway 3 (some .int)) := by rfl
set_option maxRecDepth 100000 in
theorem ri_cd64 : lw_tbl[509]? = some (Jvm.Cond.code yX4_move cX4_move 6 (some .int)) := by rfl
set_option maxRecDepth 100000 in
theorem ri_cd65 : lw_tbl[514]? = some (Jvm.Cond.code yX4_swap cX4_swap 7 (some .int)) := by rfl
set_option maxRecDepth 100000 in
theorem ri_cd66 : lw_tbl[486]? = some (Jvm.Cond.code yX4_fill cX4_fill 5 (some .int)) := by rfl
set_option maxRecDepth 100000 in
theorem ri_cd67 : lw_tbl[562]? = some (Jvm.Cond.code yX4_undo cX4_undo 1 (some .int)) := by rfl
set_option maxRecDepth 100000 in
theorem ri_cd68 : lw_tbl[569]? = some (Jvm.Cond.code yX4_keep cX4_keep 1 (some .int)) := by rfl
set_option maxRecDepth 100000 in
theorem ri_cd69 : lw_tbl[573]? = some (Jvm.Cond.code yX4_restore cX4_restore 1 (some .int)) := by rfl
set_option maxRecDepth 100000 in
theorem ri_cd70 : lw_tbl[331]? = some (Jvm.Cond.code yX4_course cX4_course 3 (some .int)) := by rfl
set_option maxRecDepth 100000 in
theorem ri_cd71 : lw_tbl[381]? = some (Jvm.Cond.code yX4_lessonAt cX4_lessonAt 5 (some .int)) := by rfl
set_option maxRecDepth 100000 in
theorem ri_cd72 : lw_tbl[548]? = some (Jvm.Cond.code yX4_groupAt cX4_groupAt 5 (some .int)) := by rfl
set_option maxRecDepth 100000 in
theorem ri_cd73 : lw_tbl[539]? = some (Jvm.Cond.code yX4_roomAt cX4_roomAt 4 (some .int)) := by rfl
set_option maxRecDepth 100000 in
theorem ri_cd74 : lw_tbl[544]? = some (Jvm.Cond.code yX4_teacherAt cX4_teacherAt 4 (some .int)) := by rfl
set_option maxRecDepth 100000 in
theorem ri_cd75 : lw_tbl[283]? = some (Jvm.Cond.code yX4_teacher cX4_teacher 3 (some .int)) := by rfl
set_option maxRecDepth 100000 in
theorem ri_cd76 : lw_tbl[322]? = some (Jvm.Cond.code yX4_room cX4_room 3 (some .int)) := by rfl
set_option maxRecDepth 100000 in
theorem ri_cd77 : lw_tbl[398]? = some (Jvm.Cond.code yX4_dayOf cX4_dayOf 2 (some .int)) := by rfl
set_option maxRecDepth 100000 in
theorem ri_cd78 : lw_tbl[228]? = some (Jvm.Cond.code yX4_count cX4_count 2 (some .int)) := by rfl
set_option maxRecDepth 100000 in
theorem ri_cd79 : lw_tbl[216]? = some (Jvm.Cond.code yX4_isIn cX4_isIn 3 (some .boolean)) := by rfl
set_option maxRecDepth 100000 in
theorem ri_cd80 : lw_tbl[401]? = some (Jvm.Cond.code yX4_isDate cX4_isDate 1 (some .boolean)) := by rfl
set_option maxRecDepth 100000 in
theorem ri_cd81 : lw_tbl[445]? = some (Jvm.Cond.code yX4_knowsGroup cX4_knowsGroup 2 (some .boolean)) := by rfl
set_option maxRecDepth 100000 in
theorem ri_cd82 : lw_tbl[287]? = some (Jvm.Cond.code yX4_knowsTeacher cX4_knowsTeacher 2 (some .boolean)) := by rfl
set_option maxRecDepth 100000 in
theorem ri_cd83 : lw_tbl[335]? = some (Jvm.Cond.code yX4_knowsCourse cX4_knowsCourse 2 (some .boolean)) := by rfl
set_option maxRecDepth 100000 in
theorem ri_cd84 : lw_tbl[185]? = some (Jvm.Cond.code yX4_remember cX4_remember 2 none) := by rfl
set_option maxRecDepth 100000 in
theorem ri_cd85 : lw_tbl[494]? = some (Jvm.Cond.code yX4_adoptTrial cX4_adoptTrial 1 none) := by rfl
set_option maxRecDepth 100000 in
theorem ri_cd86 : lw_tbl[189]? = some (Jvm.Cond.code yX4_historyAt cX4_historyAt 3 (some (.object RX2))) := by rfl
set_option maxRecDepth 100000 in
theorem ri_cd87 : lw_tbl[239]? = some (Jvm.Cond.code yJ13_bitCount_95d88 cJ13_bitCount_95d88 2 (some .int)) := by rfl
set_option maxRecDepth 100000 in
theorem ri_cd88 : lw_tbl[273]? = some (Jvm.Cond.code yL_cell cL_cell 2 (some .int)) := by rfl
set_option maxRecDepth 100000 in
theorem ri_cd89 : lw_tbl[420]? = some (Jvm.Cond.code yL_up cL_up 2 (some .int)) := by rfl
set_option maxRecDepth 100000 in
theorem ri_cd90 : lw_tbl[277]? = some (Jvm.Cond.code yL_view cL_view 5 (some .long)) := by rfl
set_option maxRecDepth 100000 in
theorem ri_cd91 : lw_tbl[529]? = some (Jvm.Cond.code yL_any cL_any 3 (some .int)) := by rfl
set_option maxRecDepth 100000 in
theorem ri_cd92 : lw_tbl[424]? = some (Jvm.Cond.code yL_setsUp cL_setsUp 3 (some .int)) := by rfl
set_option maxRecDepth 100000 in
theorem ri_cd93 : lw_tbl[417]? = some (Jvm.Cond.code yL_turn cL_turn 6 (some .int)) := by rfl
set_option maxRecDepth 100000 in
theorem ri_cd94 : lw_tbl[497]? = some (Jvm.Cond.code yL_some cL_some 4 (some .int)) := by rfl
set_option maxRecDepth 100000 in
theorem ri_cd95 : lw_tbl[555]? = some (Jvm.Cond.code yL_isTeacher cL_isTeacher 7 (some .boolean)) := by rfl
set_option maxRecDepth 100000 in
theorem ri_cd96 : lw_tbl[535]? = some (Jvm.Cond.code yL_isCourse cL_isCourse 9 (some .boolean)) := by rfl
set_option maxRecDepth 100000 in
theorem ri_cd97 : lw_tbl[532]? = some (Jvm.Cond.code yL_areRight cL_areRight 5 (some .boolean)) := by rfl
set_option maxRecDepth 100000 in
theorem ri_cd98 : lw_tbl[558]? = some (Jvm.Cond.code yL_isUndone cL_isUndone 10 (some .boolean)) := by rfl
set_option maxRecDepth 100000 in
theorem ri_cd99 : lw_tbl[565]? = some (Jvm.Cond.code yL_isKept cL_isKept 5 (some .boolean)) := by rfl
theorem ri_row0 : ri_row 0 = (yX0_init, cX0_init, 3, none, 0, 1, 2) := rfl
theorem ri_row1 : ri_row 1 = (yX0_get, cX0_get, 4, (some .int), 0, 0, 2) := rfl
theorem ri_row2 : ri_row 2 = (yX0_set, cX0_set, 5, none, 0, 0, 3) := rfl
theorem ri_row3 : ri_row 3 = (yX0_copyFrom, cX0_copyFrom, 3, none, 0, 1, 1) := rfl
theorem ri_row4 : ri_row 4 = (yX1_init, cX1_init, 2, none, 1, 1, 1) := rfl
theorem ri_row5 : ri_row 5 = (yX1_has, cX1_has, 3, (some .boolean), 1, 0, 2) := rfl
theorem ri_row6 : ri_row 6 = (yX1_size, cX1_size, 2, (some .int), 1, 1, 1) := rfl
theorem ri_row7 : ri_row 7 = (yX1_sizeWithin, cX1_sizeWithin, 6, (some .int), 1, 1, 3) := rfl
theorem ri_row8 : ri_row 8 = (yX1_gapsWithin, cX1_gapsWithin, 8, (some .int), 1, 1, 3) := rfl
theorem ri_row9 : ri_row 9 = (yX1_set, cX1_set, 6, none, 1, 0, 3) := rfl
theorem ri_row10 : ri_row 10 = (yX1_sizeOfAll, cX1_sizeOfAll, 3, (some .int), 1, 1, 0) := rfl
theorem ri_row11 : ri_row 11 = (yX1_clear, cX1_clear, 2, none, 1, 0, 0) := rfl
theorem ri_row12 : ri_row 12 = (yX1_copyFrom, cX1_copyFrom, 3, none, 1, 1, 1) := rfl
theorem ri_row13 : ri_row 13 = (yX2_init, cX2_init, 1, none, 2, 2, 0) := rfl
theorem ri_row14 : ri_row 14 = (yX2_copyFrom, cX2_copyFrom, 2, none, 2, 2, 1) := rfl
theorem ri_row15 : ri_row 15 = (yX2_slots, cX2_slots, 1, (some .int), 2, 0, 0) := rfl
theorem ri_row16 : ri_row 16 = (yX2_knowsSlot, cX2_knowsSlot, 2, (some .boolean), 2, 1, 1) := rfl
theorem ri_row17 : ri_row 17 = (yX2_firstOfDayOf, cX2_firstOfDayOf, 2, (some .int), 2, 0, 1) := rfl
theorem ri_row18 : ri_row 18 = (yX2_isHoliday, cX2_isHoliday, 2, (some .boolean), 2, 1, 1) := rfl
theorem ri_row19 : ri_row 19 = (yX2_setHoliday, cX2_setHoliday, 3, none, 2, 1, 2) := rfl
theorem ri_row20 : ri_row 20 = (yX2_allHolidays, cX2_allHolidays, 1, (some .int), 2, 2, 0) := rfl
theorem ri_row21 : ri_row 21 = (yX2_openBefore, cX2_openBefore, 4, (some .int), 2, 2, 1) := rfl
theorem ri_row22 : ri_row 22 = (yX2_dayAfter, cX2_dayAfter, 2, (some .int), 2, 0, 1) := rfl
theorem ri_row23 : ri_row 23 = (yX2_knowsCourse, cX2_knowsCourse, 2, (some .boolean), 2, 1, 1) := rfl
theorem ri_row24 : ri_row 24 = (yX2_knowsRoom, cX2_knowsRoom, 2, (some .boolean), 2, 1, 1) := rfl
theorem ri_row25 : ri_row 25 = (yX2_fact, cX2_fact, 3, (some .int), 2, 1, 2) := rfl
theorem ri_row26 : ri_row 26 = (yX2_isFor, cX2_isFor, 5, (some .boolean), 2, 2, 3) := rfl
theorem ri_row27 : ri_row 27 = (yX2_rowOfHalf, cX2_rowOfHalf, 2, (some .int), 2, 0, 2) := rfl
theorem ri_row28 : ri_row 28 = (yX2_coursesOfTeacher, cX2_coursesOfTeacher, 4, (some .int), 2, 2, 1) := rfl
theorem ri_row29 : ri_row 29 = (yX2_lessonsOfTeacher, cX2_lessonsOfTeacher, 4, (some .int), 2, 2, 1) := rfl
theorem ri_row30 : ri_row 30 = (yX2_knowsLesson, cX2_knowsLesson, 3, (some .boolean), 2, 2, 2) := rfl
theorem ri_row31 : ri_row 31 = (yX2_setLesson, cX2_setLesson, 5, none, 2, 2, 4) := rfl
theorem ri_row32 : ri_row 32 = (yX2_setHalves, cX2_setHalves, 6, none, 2, 1, 4) := rfl
theorem ri_row33 : ri_row 33 = (yX2_rowInRoom, cX2_rowInRoom, 2, (some .int), 2, 0, 2) := rfl
theorem ri_row34 : ri_row 34 = (yX2_isInRoom, cX2_isInRoom, 4, (some .boolean), 2, 1, 3) := rfl
theorem ri_row35 : ri_row 35 = (yX2_roomOf, cX2_roomOf, 4, (some .int), 2, 2, 2) := rfl
theorem ri_row36 : ri_row 36 = (yX2_placed, cX2_placed, 2, (some .int), 2, 2, 1) := rfl
theorem ri_row37 : ri_row 37 = (yX2_missing, cX2_missing, 2, (some .int), 2, 3, 1) := rfl
theorem ri_row38 : ri_row 38 = (yX2_allPlaced, cX2_allPlaced, 1, (some .int), 2, 2, 0) := rfl
theorem ri_row39 : ri_row 39 = (yX2_allMissing, cX2_allMissing, 3, (some .int), 2, 4, 0) := rfl
theorem ri_row40 : ri_row 40 = (yX2_lessonsIn, cX2_lessonsIn, 4, (some .int), 2, 1, 1) := rfl
theorem ri_row41 : ri_row 41 = (yX2_mostOnADay, cX2_mostOnADay, 4, (some .int), 2, 2, 1) := rfl
theorem ri_row42 : ri_row 42 = (yX2_windows, cX2_windows, 5, (some .int), 2, 2, 2) := rfl
theorem ri_row43 : ri_row 43 = (yX2_errorOfPlacing, cX2_errorOfPlacing, 4, (some .int), 2, 5, 3) := rfl
theorem ri_row44 : ri_row 44 = (yX2_firstReason, cX2_firstReason, 5, (some .int), 2, 4, 3) := rfl
theorem ri_row45 : ri_row 45 = (yX2_reasonOfSlot, cX2_reasonOfSlot, 5, (some .int), 2, 3, 2) := rfl
theorem ri_row46 : ri_row 46 = (yX2_reasonOfRoom, cX2_reasonOfRoom, 5, (some .int), 2, 2, 3) := rfl
theorem ri_row47 : ri_row 47 = (yX2_hasBusyGroup, cX2_hasBusyGroup, 4, (some .boolean), 2, 2, 2) := rfl
theorem ri_row48 : ri_row 48 = (yX2_isBusy, cX2_isBusy, 5, (some .boolean), 2, 1, 3) := rfl
theorem ri_row49 : ri_row 49 = (yX2_lowestFreeRoom, cX2_lowestFreeRoom, 4, (some .int), 2, 4, 2) := rfl
theorem ri_row50 : ri_row 50 = (yX2_freePlaces, cX2_freePlaces, 4, (some .int), 2, 4, 1) := rfl
theorem ri_row51 : ri_row 51 = (yX2_freeRooms, cX2_freeRooms, 5, (some .int), 2, 3, 2) := rfl
theorem ri_row52 : ri_row 52 = (yX3_init, cX3_init, 1, none, 3, 2, 0) := rfl
theorem ri_row53 : ri_row 53 = (yX4_init, cX4_init, 2, none, 4, 3, 0) := rfl
theorem ri_row54 : ri_row 54 = (yX4_setCycle, cX4_setCycle, 3, (some .int), 4, 4, 2) := rfl
theorem ri_row55 : ri_row 55 = (yX4_holiday, cX4_holiday, 3, (some .int), 4, 4, 2) := rfl
theorem ri_row56 : ri_row 56 = (yX4_addGroup, cX4_addGroup, 2, (some .int), 4, 4, 0) := rfl
theorem ri_row57 : ri_row 57 = (yX4_addTeacher, cX4_addTeacher, 4, (some .int), 4, 4, 2) := rfl
theorem ri_row58 : ri_row 58 = (yX4_addRoom, cX4_addRoom, 3, (some .int), 4, 4, 1) := rfl
theorem ri_row59 : ri_row 59 = (yX4_addCourse, cX4_addCourse, 7, (some .int), 4, 4, 5) := rfl
theorem ri_row60 : ri_row 60 = (yX4_join, cX4_join, 3, (some .int), 4, 4, 2) := rfl
theorem ri_row61 : ri_row 61 = (yX4_bar, cX4_bar, 4, (some .int), 4, 4, 3) := rfl
theorem ri_row62 : ri_row 62 = (yX4_place, cX4_place, 5, (some .int), 4, 6, 3) := rfl
theorem ri_row63 : ri_row 63 = (yX4_takeAway, cX4_takeAway, 3, (some .int), 4, 4, 2) := rfl
theorem ri_row64 : ri_row 64 = (yX4_move, cX4_move, 6, (some .int), 4, 5, 4) := rfl
theorem ri_row65 : ri_row 65 = (yX4_swap, cX4_swap, 7, (some .int), 4, 5, 4) := rfl
theorem ri_row66 : ri_row 66 = (yX4_fill, cX4_fill, 5, (some .int), 4, 5, 1) := rfl
theorem ri_row67 : ri_row 67 = (yX4_undo, cX4_undo, 1, (some .int), 4, 3, 0) := rfl
theorem ri_row68 : ri_row 68 = (yX4_keep, cX4_keep, 1, (some .int), 4, 3, 0) := rfl
theorem ri_row69 : ri_row 69 = (yX4_restore, cX4_restore, 1, (some .int), 4, 4, 0) := rfl
theorem ri_row70 : ri_row 70 = (yX4_course, cX4_course, 3, (some .int), 4, 5, 2) := rfl
theorem ri_row71 : ri_row 71 = (yX4_lessonAt, cX4_lessonAt, 5, (some .int), 4, 3, 2) := rfl
theorem ri_row72 : ri_row 72 = (yX4_groupAt, cX4_groupAt, 5, (some .int), 4, 3, 3) := rfl
theorem ri_row73 : ri_row 73 = (yX4_roomAt, cX4_roomAt, 4, (some .int), 4, 2, 2) := rfl
theorem ri_row74 : ri_row 74 = (yX4_teacherAt, cX4_teacherAt, 4, (some .int), 4, 2, 2) := rfl
theorem ri_row75 : ri_row 75 = (yX4_teacher, cX4_teacher, 3, (some .int), 4, 3, 2) := rfl
theorem ri_row76 : ri_row 76 = (yX4_room, cX4_room, 3, (some .int), 4, 2, 2) := rfl
theorem ri_row77 : ri_row 77 = (yX4_dayOf, cX4_dayOf, 2, (some .int), 4, 3, 1) := rfl
theorem ri_row78 : ri_row 78 = (yX4_count, cX4_count, 2, (some .int), 4, 5, 1) := rfl
theorem ri_row79 : ri_row 79 = (yX4_isIn, cX4_isIn, 3, (some .boolean), 4, 0, 3) := rfl
theorem ri_row80 : ri_row 80 = (yX4_isDate, cX4_isDate, 1, (some .boolean), 4, 1, 1) := rfl
theorem ri_row81 : ri_row 81 = (yX4_knowsGroup, cX4_knowsGroup, 2, (some .boolean), 4, 1, 1) := rfl
theorem ri_row82 : ri_row 82 = (yX4_knowsTeacher, cX4_knowsTeacher, 2, (some .boolean), 4, 1, 1) := rfl
theorem ri_row83 : ri_row 83 = (yX4_knowsCourse, cX4_knowsCourse, 2, (some .boolean), 4, 2, 1) := rfl
theorem ri_row84 : ri_row 84 = (yX4_remember, cX4_remember, 2, none, 4, 3, 0) := rfl
theorem ri_row85 : ri_row 85 = (yX4_adoptTrial, cX4_adoptTrial, 1, none, 4, 4, 0) := rfl
theorem ri_row86 : ri_row 86 = (yX4_historyAt, cX4_historyAt, 3, (some (.object RX2)), 4, 0, 1) := rfl
theorem ri_row87 : ri_row 87 = (yJ13_bitCount_95d88, cJ13_bitCount_95d88, 2, (some .int), 6, 0, 1) := rfl
theorem ri_row88 : ri_row 88 = (yL_cell, cL_cell, 2, (some .int), 7, 0, 2) := rfl
theorem ri_row89 : ri_row 89 = (yL_up, cL_up, 2, (some .int), 7, 0, 2) := rfl
theorem ri_row90 : ri_row 90 = (yL_view, cL_view, 5, (some .long), 7, 6, 1) := rfl
theorem ri_row91 : ri_row 91 = (yL_any, cL_any, 3, (some .int), 7, 7, 3) := rfl
theorem ri_row92 : ri_row 92 = (yL_setsUp, cL_setsUp, 3, (some .int), 7, 5, 3) := rfl
theorem ri_row93 : ri_row 93 = (yL_turn, cL_turn, 6, (some .int), 7, 8, 4) := rfl
theorem ri_row94 : ri_row 94 = (yL_some, cL_some, 4, (some .int), 7, 6, 3) := rfl
theorem ri_row95 : ri_row 95 = (yL_isTeacher, cL_isTeacher, 7, (some .boolean), 7, 6, 2) := rfl
theorem ri_row96 : ri_row 96 = (yL_isCourse, cL_isCourse, 9, (some .boolean), 7, 6, 2) := rfl
theorem ri_row97 : ri_row 97 = (yL_areRight, cL_areRight, 5, (some .boolean), 7, 7, 1) := rfl
theorem ri_row98 : ri_row 98 = (yL_isUndone, cL_isUndone, 10, (some .boolean), 7, 9, 6) := rfl
theorem ri_row99 : ri_row 99 = (yL_isKept, cL_isKept, 5, (some .boolean), 7, 9, 3) := rfl
theorem ri_row100 : ri_row 100 = (yL_law, cL_law, 12, (some .boolean), 7, 10, 1) := rfl
set_option maxRecDepth 100000 in
theorem ri_codes : ∀ y, y < 100 → Jvm.Cond.code (ri_nm y) (ri_bc y) (ri_ml y) (ri_rt y) ∈ lw_tbl
  | 0, _ => by simp only [ri_nm, ri_bc, ri_ml, ri_rt, ri_row0]; exact List.mem_of_getElem? ri_cd0
  | 1, _ => by simp only [ri_nm, ri_bc, ri_ml, ri_rt, ri_row1]; exact List.mem_of_getElem? ri_cd1
  | 2, _ => by simp only [ri_nm, ri_bc, ri_ml, ri_rt, ri_row2]; exact List.mem_of_getElem? ri_cd2
  | 3, _ => by simp only [ri_nm, ri_bc, ri_ml, ri_rt, ri_row3]; exact List.mem_of_getElem? ri_cd3
  | 4, _ => by simp only [ri_nm, ri_bc, ri_ml, ri_rt, ri_row4]; exact List.mem_of_getElem? ri_cd4
  | 5, _ => by simp only [ri_nm, ri_bc, ri_ml, ri_rt, ri_row5]; exact List.mem_of_getElem? ri_cd5
  | 6, _ => by simp only [ri_nm, ri_bc, ri_ml, ri_rt, ri_row6]; exact List.mem_of_getElem? ri_cd6
  | 7, _ => by simp only [ri_nm, ri_bc, ri_ml, ri_rt, ri_row7]; exact List.mem_of_getElem? ri_cd7
  | 8, _ => by simp only [ri_nm, ri_bc, ri_ml, ri_rt, ri_row8]; exact List.mem_of_getElem? ri_cd8
  | 9, _ => by simp only [ri_nm, ri_bc, ri_ml, ri_rt, ri_row9]; exact List.mem_of_getElem? ri_cd9
  | 10, _ => by simp only [ri_nm, ri_bc, ri_ml, ri_rt, ri_row10]; exact List.mem_of_getElem? ri_cd10
  | 11, _ => by simp only [ri_nm, ri_bc, ri_ml, ri_rt, ri_row11]; exact List.mem_of_getElem? ri_cd11
  | 12, _ => by simp only [ri_nm, ri_bc, ri_ml, ri_rt, ri_row12]; exact List.mem_of_getElem? ri_cd12
  | 13, _ => by simp only [ri_nm, ri_bc, ri_ml, ri_rt, ri_row13]; exact List.mem_of_getElem? ri_cd13
  | 14, _ => by simp only [ri_nm, ri_bc, ri_ml, ri_rt, ri_row14]; exact List.mem_of_getElem? ri_cd14
  | 15, _ => by simp only [ri_nm, ri_bc, ri_ml, ri_rt, ri_row15]; exact List.mem_of_getElem? ri_cd15
  | 16, _ => by simp only [ri_nm, ri_bc, ri_ml, ri_rt, ri_row16]; exact List.mem_of_getElem? ri_cd16
  | 17, _ => by simp only [ri_nm, ri_bc, ri_ml, ri_rt, ri_row17]; exact List.mem_of_getElem? ri_cd17
  | 18, _ => by simp only [ri_nm, ri_bc, ri_ml, ri_rt, ri_row18]; exact List.mem_of_getElem? ri_cd18
  | 19, _ => by simp only [ri_nm, ri_bc, ri_ml, ri_rt, ri_row19]; exact List.mem_of_getElem? ri_cd19
  | 20, _ => by simp only [ri_nm, ri_bc, ri_ml, ri_rt, ri_row20]; exact List.mem_of_getElem? ri_cd20
  | 21, _ => by simp only [ri_nm, ri_bc, ri_ml, ri_rt, ri_row21]; exact List.mem_of_getElem? ri_cd21
  | 22, _ => by simp only [ri_nm, ri_bc, ri_ml, ri_rt, ri_row22]; exact List.mem_of_getElem? ri_cd22
  | 23, _ => by simp only [ri_nm, ri_bc, ri_ml, ri_rt, ri_row23]; exact List.mem_of_getElem? ri_cd23
  | 24, _ => by simp only [ri_nm, ri_bc, ri_ml, ri_rt, ri_row24]; exact List.mem_of_getElem? ri_cd24
  | 25, _ => by simp only [ri_nm, ri_bc, ri_ml, ri_rt, ri_row25]; exact List.mem_of_getElem? ri_cd25
  | 26, _ => by simp only [ri_nm, ri_bc, ri_ml, ri_rt, ri_row26]; exact List.mem_of_getElem? ri_cd26
  | 27, _ => by simp only [ri_nm, ri_bc, ri_ml, ri_rt, ri_row27]; exact List.mem_of_getElem? ri_cd27
  | 28, _ => by simp only [ri_nm, ri_bc, ri_ml, ri_rt, ri_row28]; exact List.mem_of_getElem? ri_cd28
  | 29, _ => by simp only [ri_nm, ri_bc, ri_ml, ri_rt, ri_row29]; exact List.mem_of_getElem? ri_cd29
  | 30, _ => by simp only [ri_nm, ri_bc, ri_ml, ri_rt, ri_row30]; exact List.mem_of_getElem? ri_cd30
  | 31, _ => by simp only [ri_nm, ri_bc, ri_ml, ri_rt, ri_row31]; exact List.mem_of_getElem? ri_cd31
  | 32, _ => by simp only [ri_nm, ri_bc, ri_ml, ri_rt, ri_row32]; exact List.mem_of_getElem? ri_cd32
  | 33, _ => by simp only [ri_nm, ri_bc, ri_ml, ri_rt, ri_row33]; exact List.mem_of_getElem? ri_cd33
  | 34, _ => by simp only [ri_nm, ri_bc, ri_ml, ri_rt, ri_row34]; exact List.mem_of_getElem? ri_cd34
  | 35, _ => by simp only [ri_nm, ri_bc, ri_ml, ri_rt, ri_row35]; exact List.mem_of_getElem? ri_cd35
  | 36, _ => by simp only [ri_nm, ri_bc, ri_ml, ri_rt, ri_row36]; exact List.mem_of_getElem? ri_cd36
  | 37, _ => by simp only [ri_nm, ri_bc, ri_ml, ri_rt, ri_row37]; exact List.mem_of_getElem? ri_cd37
  | 38, _ => by simp only [ri_nm, ri_bc, ri_ml, ri_rt, ri_row38]; exact List.mem_of_getElem? ri_cd38
  | 39, _ => by simp only [ri_nm, ri_bc, ri_ml, ri_rt, ri_row39]; exact List.mem_of_getElem? ri_cd39
  | 40, _ => by simp only [ri_nm, ri_bc, ri_ml, ri_rt, ri_row40]; exact List.mem_of_getElem? ri_cd40
  | 41, _ => by simp only [ri_nm, ri_bc, ri_ml, ri_rt, ri_row41]; exact List.mem_of_getElem? ri_cd41
  | 42, _ => by simp only [ri_nm, ri_bc, ri_ml, ri_rt, ri_row42]; exact List.mem_of_getElem? ri_cd42
  | 43, _ => by simp only [ri_nm, ri_bc, ri_ml, ri_rt, ri_row43]; exact List.mem_of_getElem? ri_cd43
  | 44, _ => by simp only [ri_nm, ri_bc, ri_ml, ri_rt, ri_row44]; exact List.mem_of_getElem? ri_cd44
  | 45, _ => by simp only [ri_nm, ri_bc, ri_ml, ri_rt, ri_row45]; exact List.mem_of_getElem? ri_cd45
  | 46, _ => by simp only [ri_nm, ri_bc, ri_ml, ri_rt, ri_row46]; exact List.mem_of_getElem? ri_cd46
  | 47, _ => by simp only [ri_nm, ri_bc, ri_ml, ri_rt, ri_row47]; exact List.mem_of_getElem? ri_cd47
  | 48, _ => by simp only [ri_nm, ri_bc, ri_ml, ri_rt, ri_row48]; exact List.mem_of_getElem? ri_cd48
  | 49, _ => by simp only [ri_nm, ri_bc, ri_ml, ri_rt, ri_row49]; exact List.mem_of_getElem? ri_cd49
  | 50, _ => by simp only [ri_nm, ri_bc, ri_ml, ri_rt, ri_row50]; exact List.mem_of_getElem? ri_cd50
  | 51, _ => by simp only [ri_nm, ri_bc, ri_ml, ri_rt, ri_row51]; exact List.mem_of_getElem? ri_cd51
  | 52, _ => by simp only [ri_nm, ri_bc, ri_ml, ri_rt, ri_row52]; exact List.mem_of_getElem? ri_cd52
  | 53, _ => by simp only [ri_nm, ri_bc, ri_ml, ri_rt, ri_row53]; exact List.mem_of_getElem? ri_cd53
  | 54, _ => by simp only [ri_nm, ri_bc, ri_ml, ri_rt, ri_row54]; exact List.mem_of_getElem? ri_cd54
  | 55, _ => by simp only [ri_nm, ri_bc, ri_ml, ri_rt, ri_row55]; exact List.mem_of_getElem? ri_cd55
  | 56, _ => by simp only [ri_nm, ri_bc, ri_ml, ri_rt, ri_row56]; exact List.mem_of_getElem? ri_cd56
  | 57, _ => by simp only [ri_nm, ri_bc, ri_ml, ri_rt, ri_row57]; exact List.mem_of_getElem? ri_cd57
  | 58, _ => by simp only [ri_nm, ri_bc, ri_ml, ri_rt, ri_row58]; exact List.mem_of_getElem? ri_cd58
  | 59, _ => by simp only [ri_nm, ri_bc, ri_ml, ri_rt, ri_row59]; exact List.mem_of_getElem? ri_cd59
  | 60, _ => by simp only [ri_nm, ri_bc, ri_ml, ri_rt, ri_row60]; exact List.mem_of_getElem? ri_cd60
  | 61, _ => by simp only [ri_nm, ri_bc, ri_ml, ri_rt, ri_row61]; exact List.mem_of_getElem? ri_cd61
  | 62, _ => by simp only [ri_nm, ri_bc, ri_ml, ri_rt, ri_row62]; exact List.mem_of_getElem? ri_cd62
  | 63, _ => by simp only [ri_nm, ri_bc, ri_ml, ri_rt, ri_row63]; exact List.mem_of_getElem? ri_cd63
  | 64, _ => by simp only [ri_nm, ri_bc, ri_ml, ri_rt, ri_row64]; exact List.mem_of_getElem? ri_cd64
  | 65, _ => by simp only [ri_nm, ri_bc, ri_ml, ri_rt, ri_row65]; exact List.mem_of_getElem? ri_cd65
  | 66, _ => by simp only [ri_nm, ri_bc, ri_ml, ri_rt, ri_row66]; exact List.mem_of_getElem? ri_cd66
  | 67, _ => by simp only [ri_nm, ri_bc, ri_ml, ri_rt, ri_row67]; exact List.mem_of_getElem? ri_cd67
  | 68, _ => by simp only [ri_nm, ri_bc, ri_ml, ri_rt, ri_row68]; exact List.mem_of_getElem? ri_cd68
  | 69, _ => by simp only [ri_nm, ri_bc, ri_ml, ri_rt, ri_row69]; exact List.mem_of_getElem? ri_cd69
  | 70, _ => by simp only [ri_nm, ri_bc, ri_ml, ri_rt, ri_row70]; exact List.mem_of_getElem? ri_cd70
  | 71, _ => by simp only [ri_nm, ri_bc, ri_ml, ri_rt, ri_row71]; exact List.mem_of_getElem? ri_cd71
  | 72, _ => by simp only [ri_nm, ri_bc, ri_ml, ri_rt, ri_row72]; exact List.mem_of_getElem? ri_cd72
  | 73, _ => by simp only [ri_nm, ri_bc, ri_ml, ri_rt, ri_row73]; exact List.mem_of_getElem? ri_cd73
  | 74, _ => by simp only [ri_nm, ri_bc, ri_ml, ri_rt, ri_row74]; exact List.mem_of_getElem? ri_cd74
  | 75, _ => by simp only [ri_nm, ri_bc, ri_ml, ri_rt, ri_row75]; exact List.mem_of_getElem? ri_cd75
  | 76, _ => by simp only [ri_nm, ri_bc, ri_ml, ri_rt, ri_row76]; exact List.mem_of_getElem? ri_cd76
  | 77, _ => by simp only [ri_nm, ri_bc, ri_ml, ri_rt, ri_row77]; exact List.mem_of_getElem? ri_cd77
  | 78, _ => by simp only [ri_nm, ri_bc, ri_ml, ri_rt, ri_row78]; exact List.mem_of_getElem? ri_cd78
  | 79, _ => by simp only [ri_nm, ri_bc, ri_ml, ri_rt, ri_row79]; exact List.mem_of_getElem? ri_cd79
  | 80, _ => by simp only [ri_nm, ri_bc, ri_ml, ri_rt, ri_row80]; exact List.mem_of_getElem? ri_cd80
  | 81, _ => by simp only [ri_nm, ri_bc, ri_ml, ri_rt, ri_row81]; exact List.mem_of_getElem? ri_cd81
  | 82, _ => by simp only [ri_nm, ri_bc, ri_ml, ri_rt, ri_row82]; exact List.mem_of_getElem? ri_cd82
  | 83, _ => by simp only [ri_nm, ri_bc, ri_ml, ri_rt, ri_row83]; exact List.mem_of_getElem? ri_cd83
  | 84, _ => by simp only [ri_nm, ri_bc, ri_ml, ri_rt, ri_row84]; exact List.mem_of_getElem? ri_cd84
  | 85, _ => by simp only [ri_nm, ri_bc, ri_ml, ri_rt, ri_row85]; exact List.mem_of_getElem? ri_cd85
  | 86, _ => by simp only [ri_nm, ri_bc, ri_ml, ri_rt, ri_row86]; exact List.mem_of_getElem? ri_cd86
  | 87, _ => by simp only [ri_nm, ri_bc, ri_ml, ri_rt, ri_row87]; exact List.mem_of_getElem? ri_cd87
  | 88, _ => by simp only [ri_nm, ri_bc, ri_ml, ri_rt, ri_row88]; exact List.mem_of_getElem? ri_cd88
  | 89, _ => by simp only [ri_nm, ri_bc, ri_ml, ri_rt, ri_row89]; exact List.mem_of_getElem? ri_cd89
  | 90, _ => by simp only [ri_nm, ri_bc, ri_ml, ri_rt, ri_row90]; exact List.mem_of_getElem? ri_cd90
  | 91, _ => by simp only [ri_nm, ri_bc, ri_ml, ri_rt, ri_row91]; exact List.mem_of_getElem? ri_cd91
  | 92, _ => by simp only [ri_nm, ri_bc, ri_ml, ri_rt, ri_row92]; exact List.mem_of_getElem? ri_cd92
  | 93, _ => by simp only [ri_nm, ri_bc, ri_ml, ri_rt, ri_row93]; exact List.mem_of_getElem? ri_cd93
  | 94, _ => by simp only [ri_nm, ri_bc, ri_ml, ri_rt, ri_row94]; exact List.mem_of_getElem? ri_cd94
  | 95, _ => by simp only [ri_nm, ri_bc, ri_ml, ri_rt, ri_row95]; exact List.mem_of_getElem? ri_cd95
  | 96, _ => by simp only [ri_nm, ri_bc, ri_ml, ri_rt, ri_row96]; exact List.mem_of_getElem? ri_cd96
  | 97, _ => by simp only [ri_nm, ri_bc, ri_ml, ri_rt, ri_row97]; exact List.mem_of_getElem? ri_cd97
  | 98, _ => by simp only [ri_nm, ri_bc, ri_ml, ri_rt, ri_row98]; exact List.mem_of_getElem? ri_cd98
  | 99, _ => by simp only [ri_nm, ri_bc, ri_ml, ri_rt, ri_row99]; exact List.mem_of_getElem? ri_cd99
  | k + 100, h => absurd h (by omega)

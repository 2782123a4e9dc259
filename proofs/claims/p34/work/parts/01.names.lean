-- ===== PART A: goes FIRST, ahead of the names: the tables' words, and 'selects' of the private methods out of them =====
/-- a private method of a class that the tables say can be made, by its rows of tables_1 -/
def lw_okq (q : MethodName × Nat) : Prop := (q.1.cls ≠ "java/lang/invoke/MethodHandle" ∧ q.1.cls ≠ "java/lang/invoke/VarHandle") ∧ Cond.instantiable q.1.cls q.2 ∈ tables_1 ∧ Cond.privateMethod q.1 ∈ tables_1 ∧ Cond.instanceMethod q.1 ∈ tables_1
theorem lw_p0 : lw_okq (⟨"CycleTimetable", "remember", "()V"⟩, 8) := ⟨⟨by decide +kernel, by decide +kernel⟩, List.mem_of_getElem? (i := 10) (by decide +kernel), List.mem_of_getElem? (i := 170) (by decide +kernel), List.mem_of_getElem? (i := 171) (by decide +kernel)⟩
theorem lw_p1 : lw_okq (⟨"CycleTimetable", "historyAt", "(I)LCycleTimetable$State;"⟩, 8) := ⟨⟨by decide +kernel, by decide +kernel⟩, List.mem_of_getElem? (i := 10) (by decide +kernel), List.mem_of_getElem? (i := 174) (by decide +kernel), List.mem_of_getElem? (i := 175) (by decide +kernel)⟩
theorem lw_p2 : lw_okq (⟨"CycleTimetable", "knowsTeacher", "(I)Z"⟩, 8) := ⟨⟨by decide +kernel, by decide +kernel⟩, List.mem_of_getElem? (i := 10) (by decide +kernel), List.mem_of_getElem? (i := 272) (by decide +kernel), List.mem_of_getElem? (i := 273) (by decide +kernel)⟩
theorem lw_p3 : lw_okq (⟨"CycleTimetable", "knowsCourse", "(I)Z"⟩, 8) := ⟨⟨by decide +kernel, by decide +kernel⟩, List.mem_of_getElem? (i := 10) (by decide +kernel), List.mem_of_getElem? (i := 320) (by decide +kernel), List.mem_of_getElem? (i := 321) (by decide +kernel)⟩
theorem lw_p4 : lw_okq (⟨"CycleTimetable$State", "reasonOfSlot", "(II)I"⟩, 16) := ⟨⟨by decide +kernel, by decide +kernel⟩, List.mem_of_getElem? (i := 18) (by decide +kernel), List.mem_of_getElem? (i := 338) (by decide +kernel), List.mem_of_getElem? (i := 339) (by decide +kernel)⟩
theorem lw_p5 : lw_okq (⟨"CycleTimetable$State", "firstOfDayOf", "(I)I"⟩, 16) := ⟨⟨by decide +kernel, by decide +kernel⟩, List.mem_of_getElem? (i := 18) (by decide +kernel), List.mem_of_getElem? (i := 342) (by decide +kernel), List.mem_of_getElem? (i := 343) (by decide +kernel)⟩
theorem lw_p6 : lw_okq (⟨"CycleTimetable$State", "hasBusyGroup", "(II)Z"⟩, 16) := ⟨⟨by decide +kernel, by decide +kernel⟩, List.mem_of_getElem? (i := 18) (by decide +kernel), List.mem_of_getElem? (i := 347) (by decide +kernel), List.mem_of_getElem? (i := 348) (by decide +kernel)⟩
theorem lw_p7 : lw_okq (⟨"CycleTimetable$State", "isBusy", "(III)Z"⟩, 16) := ⟨⟨by decide +kernel, by decide +kernel⟩, List.mem_of_getElem? (i := 18) (by decide +kernel), List.mem_of_getElem? (i := 351) (by decide +kernel), List.mem_of_getElem? (i := 352) (by decide +kernel)⟩
theorem lw_p8 : lw_okq (⟨"CycleTimetable$State", "freeRooms", "(II)I"⟩, 16) := ⟨⟨by decide +kernel, by decide +kernel⟩, List.mem_of_getElem? (i := 18) (by decide +kernel), List.mem_of_getElem? (i := 358) (by decide +kernel), List.mem_of_getElem? (i := 359) (by decide +kernel)⟩
theorem lw_p9 : lw_okq (⟨"CycleTimetable$State", "reasonOfRoom", "(III)I"⟩, 16) := ⟨⟨by decide +kernel, by decide +kernel⟩, List.mem_of_getElem? (i := 18) (by decide +kernel), List.mem_of_getElem? (i := 362) (by decide +kernel), List.mem_of_getElem? (i := 363) (by decide +kernel)⟩
theorem lw_p10 : lw_okq (⟨"CycleTimetable", "knowsGroup", "(I)Z"⟩, 8) := ⟨⟨by decide +kernel, by decide +kernel⟩, List.mem_of_getElem? (i := 10) (by decide +kernel), List.mem_of_getElem? (i := 430) (by decide +kernel), List.mem_of_getElem? (i := 431) (by decide +kernel)⟩
theorem lw_p11 : lw_okq (⟨"CycleTimetable$State", "setHalves", "(IIIZ)V"⟩, 16) := ⟨⟨by decide +kernel, by decide +kernel⟩, List.mem_of_getElem? (i := 18) (by decide +kernel), List.mem_of_getElem? (i := 467) (by decide +kernel), List.mem_of_getElem? (i := 468) (by decide +kernel)⟩
theorem lw_p12 : lw_okq (⟨"CycleTimetable", "adoptTrial", "()V"⟩, 8) := ⟨⟨by decide +kernel, by decide +kernel⟩, List.mem_of_getElem? (i := 10) (by decide +kernel), List.mem_of_getElem? (i := 479) (by decide +kernel), List.mem_of_getElem? (i := 480) (by decide +kernel)⟩
def lw_privs_1 : List (MethodName × Nat) := [(⟨"CycleTimetable", "remember", "()V"⟩, 8), (⟨"CycleTimetable", "historyAt", "(I)LCycleTimetable$State;"⟩, 8), (⟨"CycleTimetable", "knowsTeacher", "(I)Z"⟩, 8), (⟨"CycleTimetable", "knowsCourse", "(I)Z"⟩, 8), (⟨"CycleTimetable$State", "reasonOfSlot", "(II)I"⟩, 16), (⟨"CycleTimetable$State", "firstOfDayOf", "(I)I"⟩, 16), (⟨"CycleTimetable$State", "hasBusyGroup", "(II)Z"⟩, 16), (⟨"CycleTimetable$State", "isBusy", "(III)Z"⟩, 16), (⟨"CycleTimetable$State", "freeRooms", "(II)I"⟩, 16), (⟨"CycleTimetable$State", "reasonOfRoom", "(III)I"⟩, 16), (⟨"CycleTimetable", "knowsGroup", "(I)Z"⟩, 8), (⟨"CycleTimetable$State", "setHalves", "(IIIZ)V"⟩, 16), (⟨"CycleTimetable", "adoptTrial", "()V"⟩, 8)]
theorem lw_r1 : ∀ q ∈ lw_privs_1, lw_okq q := List.forall_mem_cons.mpr ⟨lw_p0, List.forall_mem_cons.mpr ⟨lw_p1, List.forall_mem_cons.mpr ⟨lw_p2, List.forall_mem_cons.mpr ⟨lw_p3, List.forall_mem_cons.mpr ⟨lw_p4, List.forall_mem_cons.mpr ⟨lw_p5, List.forall_mem_cons.mpr ⟨lw_p6, List.forall_mem_cons.mpr ⟨lw_p7, List.forall_mem_cons.mpr ⟨lw_p8, List.forall_mem_cons.mpr ⟨lw_p9, List.forall_mem_cons.mpr ⟨lw_p10, List.forall_mem_cons.mpr ⟨lw_p11, List.forall_mem_cons.mpr ⟨lw_p12, fun _ h => absurd h List.not_mem_nil⟩⟩⟩⟩⟩⟩⟩⟩⟩⟩⟩⟩⟩
def lw_privs : List (MethodName × Nat) := lw_privs_1
def lw_tbl : List Cond := k2_sels lw_privs ++ tables_1
theorem lw_privs_ok : ∀ q ∈ lw_privs, lw_okq q := lw_r1

def RX0 : String := "CycleTimetable$Numbers"
def TX0 : u_T := fun k => match k with
  | 0 => ("CycleTimetable$Numbers", "width", "I", true)
  | _ => ("CycleTimetable$Numbers", "cells", "[I", true)
def tyX0 : Nat → FieldType := fun k => match k with
  | 0 => .int
  | _ => .array .int
abbrev wsX00 : List Cond := u_ws RX0 TX0 2
theorem nmX0 : ∀ a, a < 2 → ∀ b, b < 2 → a ≠ b → (TX0 a).2.1 ≠ (TX0 b).2.1 := by decide +kernel
theorem tyX0_ok : ∀ k, k < 2 → parseFieldDescriptor (TX0 k).2.2.1 = some (tyX0 k) := by decide +kernel
abbrev cX0_init : ByteArray := prog_2_method_1_code
def yX0_init : MethodName := ⟨RX0, "<init>", "(II)V"⟩
abbrev cX0_get : ByteArray := prog_2_method_2_code
def yX0_get : MethodName := ⟨RX0, "get", "(II)I"⟩
abbrev cX0_set : ByteArray := prog_2_method_3_code
def yX0_set : MethodName := ⟨RX0, "set", "(III)V"⟩
abbrev cX0_copyFrom : ByteArray := prog_2_method_4_code
def yX0_copyFrom : MethodName := ⟨RX0, "copyFrom", "(LCycleTimetable$Numbers;)V"⟩
def RX1 : String := "CycleTimetable$Sets"
def TX1 : u_T := fun k => match k with
  | _ => ("CycleTimetable$Sets", "rows", "[J", true)
def tyX1 : Nat → FieldType := fun k => match k with
  | _ => .array .long
abbrev wsX10 : List Cond := u_ws RX1 TX1 1
theorem nmX1 : ∀ a, a < 1 → ∀ b, b < 1 → a ≠ b → (TX1 a).2.1 ≠ (TX1 b).2.1 := by decide +kernel
theorem tyX1_ok : ∀ k, k < 1 → parseFieldDescriptor (TX1 k).2.2.1 = some (tyX1 k) := by decide +kernel
abbrev cX1_init : ByteArray := prog_3_method_1_code
def yX1_init : MethodName := ⟨RX1, "<init>", "(I)V"⟩
abbrev cX1_has : ByteArray := prog_3_method_2_code
def yX1_has : MethodName := ⟨RX1, "has", "(II)Z"⟩
abbrev cX1_size : ByteArray := prog_3_method_3_code
def yX1_size : MethodName := ⟨RX1, "size", "(I)I"⟩
abbrev cX1_sizeWithin : ByteArray := prog_3_method_4_code
def yX1_sizeWithin : MethodName := ⟨RX1, "sizeWithin", "(III)I"⟩
abbrev cX1_gapsWithin : ByteArray := prog_3_method_5_code
def yX1_gapsWithin : MethodName := ⟨RX1, "gapsWithin", "(III)I"⟩
abbrev cX1_set : ByteArray := prog_3_method_6_code
def yX1_set : MethodName := ⟨RX1, "set", "(IIZ)V"⟩
abbrev cX1_sizeOfAll : ByteArray := prog_3_method_7_code
def yX1_sizeOfAll : MethodName := ⟨RX1, "sizeOfAll", "()I"⟩
abbrev cX1_clear : ByteArray := prog_3_method_8_code
def yX1_clear : MethodName := ⟨RX1, "clear", "()V"⟩
abbrev cX1_copyFrom : ByteArray := prog_3_method_9_code
def yX1_copyFrom : MethodName := ⟨RX1, "copyFrom", "(LCycleTimetable$Sets;)V"⟩
def RX2 : String := "CycleTimetable$State"
def TX2 : u_T := fun k => match k with
  | 0 => ("CycleTimetable$State", "days", "I", false)
  | 1 => ("CycleTimetable$State", "periods", "I", false)
  | 2 => ("CycleTimetable$State", "groups", "I", false)
  | 3 => ("CycleTimetable$State", "teachers", "I", false)
  | 4 => ("CycleTimetable$State", "rooms", "I", false)
  | 5 => ("CycleTimetable$State", "courses", "I", false)
  | 6 => ("CycleTimetable$State", "teacherFacts", "LCycleTimetable$Numbers;", true)
  | 7 => ("CycleTimetable$State", "roomEquipment", "LCycleTimetable$Numbers;", true)
  | 8 => ("CycleTimetable$State", "courseFacts", "LCycleTimetable$Numbers;", true)
  | 9 => ("CycleTimetable$State", "holidays", "LCycleTimetable$Sets;", true)
  | 10 => ("CycleTimetable$State", "barred", "LCycleTimetable$Sets;", true)
  | 11 => ("CycleTimetable$State", "ofCourseInRoom", "LCycleTimetable$Sets;", true)
  | 12 => ("CycleTimetable$State", "ofCourse", "LCycleTimetable$Sets;", true)
  | 13 => ("CycleTimetable$State", "ofTeacher", "LCycleTimetable$Sets;", true)
  | 14 => ("CycleTimetable$State", "ofRoom", "LCycleTimetable$Sets;", true)
  | _ => ("CycleTimetable$State", "ofHalf", "LCycleTimetable$Sets;", true)
def tyX2 : Nat → FieldType := fun k => match k with
  | 0 => .int
  | 1 => .int
  | 2 => .int
  | 3 => .int
  | 4 => .int
  | 5 => .int
  | 6 => .object "CycleTimetable$Numbers"
  | 7 => .object "CycleTimetable$Numbers"
  | 8 => .object "CycleTimetable$Numbers"
  | 9 => .object "CycleTimetable$Sets"
  | 10 => .object "CycleTimetable$Sets"
  | 11 => .object "CycleTimetable$Sets"
  | 12 => .object "CycleTimetable$Sets"
  | 13 => .object "CycleTimetable$Sets"
  | 14 => .object "CycleTimetable$Sets"
  | _ => .object "CycleTimetable$Sets"
abbrev wsX20 : List Cond := u_ws RX2 TX2 16
theorem nmX2 : ∀ a, a < 16 → ∀ b, b < 16 → a ≠ b → (TX2 a).2.1 ≠ (TX2 b).2.1 := by decide +kernel
theorem tyX2_ok : ∀ k, k < 16 → parseFieldDescriptor (TX2 k).2.2.1 = some (tyX2 k) := by decide +kernel
abbrev cX2_init : ByteArray := prog_4_method_1_code
def yX2_init : MethodName := ⟨RX2, "<init>", "()V"⟩
abbrev cX2_copyFrom : ByteArray := prog_4_method_2_code
def yX2_copyFrom : MethodName := ⟨RX2, "copyFrom", "(LCycleTimetable$State;)V"⟩
abbrev cX2_slots : ByteArray := prog_4_method_3_code
def yX2_slots : MethodName := ⟨RX2, "slots", "()I"⟩
abbrev cX2_knowsSlot : ByteArray := prog_4_method_4_code
def yX2_knowsSlot : MethodName := ⟨RX2, "knowsSlot", "(I)Z"⟩
abbrev cX2_firstOfDayOf : ByteArray := prog_4_method_5_code
def yX2_firstOfDayOf : MethodName := ⟨RX2, "firstOfDayOf", "(I)I"⟩
abbrev cX2_isHoliday : ByteArray := prog_4_method_6_code
def yX2_isHoliday : MethodName := ⟨RX2, "isHoliday", "(I)Z"⟩
abbrev cX2_setHoliday : ByteArray := prog_4_method_7_code
def yX2_setHoliday : MethodName := ⟨RX2, "setHoliday", "(IZ)V"⟩
abbrev cX2_allHolidays : ByteArray := prog_4_method_8_code
def yX2_allHolidays : MethodName := ⟨RX2, "allHolidays", "()I"⟩
abbrev cX2_openBefore : ByteArray := prog_4_method_9_code
def yX2_openBefore : MethodName := ⟨RX2, "openBefore", "(I)I"⟩
abbrev cX2_dayAfter : ByteArray := prog_4_method_10_code
def yX2_dayAfter : MethodName := ⟨RX2, "dayAfter", "(I)I"⟩
abbrev cX2_knowsCourse : ByteArray := prog_4_method_11_code
def yX2_knowsCourse : MethodName := ⟨RX2, "knowsCourse", "(I)Z"⟩
abbrev cX2_knowsRoom : ByteArray := prog_4_method_12_code
def yX2_knowsRoom : MethodName := ⟨RX2, "knowsRoom", "(I)Z"⟩
abbrev cX2_fact : ByteArray := prog_4_method_13_code
def yX2_fact : MethodName := ⟨RX2, "fact", "(II)I"⟩
abbrev cX2_isFor : ByteArray := prog_4_method_14_code
def yX2_isFor : MethodName := ⟨RX2, "isFor", "(III)Z"⟩
abbrev cX2_rowOfHalf : ByteArray := prog_4_method_15_code
def yX2_rowOfHalf : MethodName := ⟨RX2, "rowOfHalf", "(II)I"⟩
abbrev cX2_coursesOfTeacher : ByteArray := prog_4_method_16_code
def yX2_coursesOfTeacher : MethodName := ⟨RX2, "coursesOfTeacher", "(I)I"⟩
abbrev cX2_lessonsOfTeacher : ByteArray := prog_4_method_17_code
def yX2_lessonsOfTeacher : MethodName := ⟨RX2, "lessonsOfTeacher", "(I)I"⟩
abbrev cX2_knowsLesson : ByteArray := prog_4_method_18_code
def yX2_knowsLesson : MethodName := ⟨RX2, "knowsLesson", "(II)Z"⟩
abbrev cX2_setLesson : ByteArray := prog_4_method_19_code
def yX2_setLesson : MethodName := ⟨RX2, "setLesson", "(IIIZ)V"⟩
abbrev cX2_setHalves : ByteArray := prog_4_method_20_code
def yX2_setHalves : MethodName := ⟨RX2, "setHalves", "(IIIZ)V"⟩
abbrev cX2_rowInRoom : ByteArray := prog_4_method_21_code
def yX2_rowInRoom : MethodName := ⟨RX2, "rowInRoom", "(II)I"⟩
abbrev cX2_isInRoom : ByteArray := prog_4_method_22_code
def yX2_isInRoom : MethodName := ⟨RX2, "isInRoom", "(III)Z"⟩
abbrev cX2_roomOf : ByteArray := prog_4_method_23_code
def yX2_roomOf : MethodName := ⟨RX2, "roomOf", "(II)I"⟩
abbrev cX2_placed : ByteArray := prog_4_method_24_code
def yX2_placed : MethodName := ⟨RX2, "placed", "(I)I"⟩
abbrev cX2_missing : ByteArray := prog_4_method_25_code
def yX2_missing : MethodName := ⟨RX2, "missing", "(I)I"⟩
abbrev cX2_allPlaced : ByteArray := prog_4_method_26_code
def yX2_allPlaced : MethodName := ⟨RX2, "allPlaced", "()I"⟩
abbrev cX2_allMissing : ByteArray := prog_4_method_27_code
def yX2_allMissing : MethodName := ⟨RX2, "allMissing", "()I"⟩
abbrev cX2_lessonsIn : ByteArray := prog_4_method_29_code
def yX2_lessonsIn : MethodName := ⟨RX2, "lessonsIn", "(I)I"⟩
abbrev cX2_mostOnADay : ByteArray := prog_4_method_30_code
def yX2_mostOnADay : MethodName := ⟨RX2, "mostOnADay", "(I)I"⟩
abbrev cX2_windows : ByteArray := prog_4_method_31_code
def yX2_windows : MethodName := ⟨RX2, "windows", "(LCycleTimetable$Sets;I)I"⟩
abbrev cX2_errorOfPlacing : ByteArray := prog_4_method_32_code
def yX2_errorOfPlacing : MethodName := ⟨RX2, "errorOfPlacing", "(III)I"⟩
abbrev cX2_firstReason : ByteArray := prog_4_method_33_code
def yX2_firstReason : MethodName := ⟨RX2, "firstReason", "(III)I"⟩
abbrev cX2_reasonOfSlot : ByteArray := prog_4_method_34_code
def yX2_reasonOfSlot : MethodName := ⟨RX2, "reasonOfSlot", "(II)I"⟩
abbrev cX2_reasonOfRoom : ByteArray := prog_4_method_35_code
def yX2_reasonOfRoom : MethodName := ⟨RX2, "reasonOfRoom", "(III)I"⟩
abbrev cX2_hasBusyGroup : ByteArray := prog_4_method_36_code
def yX2_hasBusyGroup : MethodName := ⟨RX2, "hasBusyGroup", "(II)Z"⟩
abbrev cX2_isBusy : ByteArray := prog_4_method_37_code
def yX2_isBusy : MethodName := ⟨RX2, "isBusy", "(III)Z"⟩
abbrev cX2_lowestFreeRoom : ByteArray := prog_4_method_38_code
def yX2_lowestFreeRoom : MethodName := ⟨RX2, "lowestFreeRoom", "(II)I"⟩
abbrev cX2_freePlaces : ByteArray := prog_4_method_39_code
def yX2_freePlaces : MethodName := ⟨RX2, "freePlaces", "(I)I"⟩
abbrev cX2_freeRooms : ByteArray := prog_4_method_40_code
def yX2_freeRooms : MethodName := ⟨RX2, "freeRooms", "(II)I"⟩
def RX3 : String := "CycleTimetable$Text"
def TX3 : u_T := fun k => match k with
  | 0 => ("CycleTimetable$Text", "length", "I", false)
  | 1 => ("CycleTimetable$Text", "found", "I", false)
  | 2 => ("CycleTimetable$Text", "placings", "LCycleTimetable$Numbers;", true)
  | 3 => ("CycleTimetable$Text", "characters", "LCycleTimetable$Numbers;", true)
  | _ => ("CycleTimetable$Text", "position", "I", false)
def tyX3 : Nat → FieldType := fun k => match k with
  | 0 => .int
  | 1 => .int
  | 2 => .object "CycleTimetable$Numbers"
  | 3 => .object "CycleTimetable$Numbers"
  | _ => .int
abbrev wsX30 : List Cond := u_ws RX3 TX3 5
theorem nmX3 : ∀ a, a < 5 → ∀ b, b < 5 → a ≠ b → (TX3 a).2.1 ≠ (TX3 b).2.1 := by decide +kernel
theorem tyX3_ok : ∀ k, k < 5 → parseFieldDescriptor (TX3 k).2.2.1 = some (tyX3 k) := by decide +kernel
abbrev cX3_init : ByteArray := prog_5_method_1_code
def yX3_init : MethodName := ⟨RX3, "<init>", "()V"⟩
def RX4 : String := "CycleTimetable"
def TX4 : u_T := fun k => match k with
  | 0 => ("CycleTimetable", "state", "LCycleTimetable$State;", true)
  | 1 => ("CycleTimetable", "trial", "LCycleTimetable$State;", true)
  | 2 => ("CycleTimetable", "snapshot", "LCycleTimetable$State;", true)
  | 3 => ("CycleTimetable", "hasSnapshot", "Z", false)
  | 4 => ("CycleTimetable", "history", "[LCycleTimetable$State;", true)
  | 5 => ("CycleTimetable", "firstState", "I", false)
  | 6 => ("CycleTimetable", "states", "I", false)
  | _ => ("CycleTimetable", "text", "LCycleTimetable$Text;", true)
def tyX4 : Nat → FieldType := fun k => match k with
  | 0 => .object "CycleTimetable$State"
  | 1 => .object "CycleTimetable$State"
  | 2 => .object "CycleTimetable$State"
  | 3 => .boolean
  | 4 => .array (.object "CycleTimetable$State")
  | 5 => .int
  | 6 => .int
  | _ => .object "CycleTimetable$Text"
abbrev wsX40 : List Cond := u_ws RX4 TX4 8
theorem nmX4 : ∀ a, a < 8 → ∀ b, b < 8 → a ≠ b → (TX4 a).2.1 ≠ (TX4 b).2.1 := by decide +kernel
theorem tyX4_ok : ∀ k, k < 8 → parseFieldDescriptor (TX4 k).2.2.1 = some (tyX4 k) := by decide +kernel
abbrev cX4_init : ByteArray := prog_1_method_1_code
def yX4_init : MethodName := ⟨RX4, "<init>", "()V"⟩
abbrev cX4_setCycle : ByteArray := prog_1_method_2_code
def yX4_setCycle : MethodName := ⟨RX4, "setCycle", "(II)I"⟩
abbrev cX4_holiday : ByteArray := prog_1_method_3_code
def yX4_holiday : MethodName := ⟨RX4, "holiday", "(IZ)I"⟩
abbrev cX4_addGroup : ByteArray := prog_1_method_4_code
def yX4_addGroup : MethodName := ⟨RX4, "addGroup", "()I"⟩
abbrev cX4_addTeacher : ByteArray := prog_1_method_5_code
def yX4_addTeacher : MethodName := ⟨RX4, "addTeacher", "(II)I"⟩
abbrev cX4_addRoom : ByteArray := prog_1_method_6_code
def yX4_addRoom : MethodName := ⟨RX4, "addRoom", "(I)I"⟩
abbrev cX4_addCourse : ByteArray := prog_1_method_7_code
def yX4_addCourse : MethodName := ⟨RX4, "addCourse", "(IIIII)I"⟩
abbrev cX4_join : ByteArray := prog_1_method_8_code
def yX4_join : MethodName := ⟨RX4, "join", "(II)I"⟩
abbrev cX4_bar : ByteArray := prog_1_method_9_code
def yX4_bar : MethodName := ⟨RX4, "bar", "(IIZ)I"⟩
abbrev cX4_place : ByteArray := prog_1_method_10_code
def yX4_place : MethodName := ⟨RX4, "place", "(III)I"⟩
abbrev cX4_takeAway : ByteArray := prog_1_method_11_code
def yX4_takeAway : MethodName := ⟨RX4, "takeAway", "(II)I"⟩
abbrev cX4_move : ByteArray := prog_1_method_12_code
def yX4_move : MethodName := ⟨RX4, "move", "(IIII)I"⟩
abbrev cX4_swap : ByteArray := prog_1_method_13_code
def yX4_swap : MethodName := ⟨RX4, "swap", "(IIII)I"⟩
abbrev cX4_fill : ByteArray := prog_1_method_14_code
def yX4_fill : MethodName := ⟨RX4, "fill", "(I)I"⟩
abbrev cX4_undo : ByteArray := prog_1_method_18_code
def yX4_undo : MethodName := ⟨RX4, "undo", "()I"⟩
abbrev cX4_keep : ByteArray := prog_1_method_19_code
def yX4_keep : MethodName := ⟨RX4, "keep", "()I"⟩
abbrev cX4_restore : ByteArray := prog_1_method_20_code
def yX4_restore : MethodName := ⟨RX4, "restore", "()I"⟩
abbrev cX4_course : ByteArray := prog_1_method_22_code
def yX4_course : MethodName := ⟨RX4, "course", "(II)I"⟩
abbrev cX4_lessonAt : ByteArray := prog_1_method_23_code
def yX4_lessonAt : MethodName := ⟨RX4, "lessonAt", "(II)I"⟩
abbrev cX4_groupAt : ByteArray := prog_1_method_24_code
def yX4_groupAt : MethodName := ⟨RX4, "groupAt", "(III)I"⟩
abbrev cX4_roomAt : ByteArray := prog_1_method_25_code
def yX4_roomAt : MethodName := ⟨RX4, "roomAt", "(II)I"⟩
abbrev cX4_teacherAt : ByteArray := prog_1_method_26_code
def yX4_teacherAt : MethodName := ⟨RX4, "teacherAt", "(II)I"⟩
abbrev cX4_teacher : ByteArray := prog_1_method_27_code
def yX4_teacher : MethodName := ⟨RX4, "teacher", "(II)I"⟩
abbrev cX4_room : ByteArray := prog_1_method_29_code
def yX4_room : MethodName := ⟨RX4, "room", "(II)I"⟩
abbrev cX4_dayOf : ByteArray := prog_1_method_30_code
def yX4_dayOf : MethodName := ⟨RX4, "dayOf", "(I)I"⟩
abbrev cX4_count : ByteArray := prog_1_method_32_code
def yX4_count : MethodName := ⟨RX4, "count", "(I)I"⟩
abbrev cX4_isIn : ByteArray := prog_1_method_33_code
def yX4_isIn : MethodName := ⟨RX4, "isIn", "(III)Z"⟩
abbrev cX4_isDate : ByteArray := prog_1_method_34_code
def yX4_isDate : MethodName := ⟨RX4, "isDate", "(I)Z"⟩
abbrev cX4_knowsGroup : ByteArray := prog_1_method_35_code
def yX4_knowsGroup : MethodName := ⟨RX4, "knowsGroup", "(I)Z"⟩
abbrev cX4_knowsTeacher : ByteArray := prog_1_method_36_code
def yX4_knowsTeacher : MethodName := ⟨RX4, "knowsTeacher", "(I)Z"⟩
abbrev cX4_knowsCourse : ByteArray := prog_1_method_37_code
def yX4_knowsCourse : MethodName := ⟨RX4, "knowsCourse", "(I)Z"⟩
abbrev cX4_remember : ByteArray := prog_1_method_38_code
def yX4_remember : MethodName := ⟨RX4, "remember", "()V"⟩
abbrev cX4_adoptTrial : ByteArray := prog_1_method_39_code
def yX4_adoptTrial : MethodName := ⟨RX4, "adoptTrial", "()V"⟩
abbrev cX4_historyAt : ByteArray := prog_1_method_40_code
def yX4_historyAt : MethodName := ⟨RX4, "historyAt", "(I)LCycleTimetable$State;"⟩
def RX5 : String := "CycleTimetableModel"
def TX5 : u_T := fun k => match k with
  | _ => ("", "", "", false)
def tyX5 : Nat → FieldType := fun k => match k with
  | _ => .int
abbrev wsX50 : List Cond := u_ws RX5 TX5 0
theorem nmX5 : ∀ a, a < 0 → ∀ b, b < 0 → a ≠ b → (TX5 a).2.1 ≠ (TX5 b).2.1 := by decide +kernel
theorem tyX5_ok : ∀ k, k < 0 → parseFieldDescriptor (TX5 k).2.2.1 = some (tyX5 k) := by decide +kernel
def RJ13 : String := "java/lang/Long"
def TJ13 : u_T := fun k => match k with
  | _ => ("", "", "", false)
def tyJ13 : Nat → FieldType := fun k => match k with
  | _ => .int
abbrev wsJ130 : List Cond := u_ws RJ13 TJ13 0
theorem nmJ13 : ∀ a, a < 0 → ∀ b, b < 0 → a ≠ b → (TJ13 a).2.1 ≠ (TJ13 b).2.1 := by decide +kernel
theorem tyJ13_ok : ∀ k, k < 0 → parseFieldDescriptor (TJ13 k).2.2.1 = some (tyJ13 k) := by decide +kernel
abbrev cJ13_bitCount_95d88 : ByteArray := prog_8_method_50_code
def yJ13_bitCount_95d88 : MethodName := ⟨RJ13, "bitCount", "(J)I"⟩
def RJ9 : String := "java/lang/Math"
def TJ9 : u_T := fun k => match k with
  | _ => ("", "", "", false)
def tyJ9 : Nat → FieldType := fun k => match k with
  | _ => .int
abbrev wsJ90 : List Cond := u_ws RJ9 TJ9 0
theorem nmJ9 : ∀ a, a < 0 → ∀ b, b < 0 → a ≠ b → (TJ9 a).2.1 ≠ (TJ9 b).2.1 := by decide +kernel
theorem tyJ9_ok : ∀ k, k < 0 → parseFieldDescriptor (TJ9 k).2.2.1 = some (tyJ9 k) := by decide +kernel
abbrev cJ9_max_7cf53 : ByteArray := prog_9_method_65_code
def yJ9_max_7cf53 : MethodName := ⟨RJ9, "max", "(II)I"⟩
abbrev cJ9_min_7cf53 : ByteArray := prog_9_method_69_code
def yJ9_min_7cf53 : MethodName := ⟨RJ9, "min", "(II)I"⟩
def RJ10 : String := "java/lang/System"
def TJ10 : u_T := fun k => match k with
  | _ => ("", "", "", false)
def tyJ10 : Nat → FieldType := fun k => match k with
  | _ => .int
abbrev wsJ100 : List Cond := u_ws RJ10 TJ10 0
theorem nmJ10 : ∀ a, a < 0 → ∀ b, b < 0 → a ≠ b → (TJ10 a).2.1 ≠ (TJ10 b).2.1 := by decide +kernel
theorem tyJ10_ok : ∀ k, k < 0 → parseFieldDescriptor (TJ10 k).2.2.1 = some (tyJ10 k) := by decide +kernel
def RL : String := "CycleTimetableLaw"
abbrev cL_cell : ByteArray := method_2_code
def yL_cell : MethodName := ⟨RL, "cell", "([II)I"⟩
abbrev cL_up : ByteArray := method_3_code
def yL_up : MethodName := ⟨RL, "up", "(II)I"⟩
abbrev cL_view : ByteArray := method_5_code
def yL_view : MethodName := ⟨RL, "view", "(LCycleTimetable;)J"⟩
abbrev cL_any : ByteArray := method_6_code
def yL_any : MethodName := ⟨RL, "any", "(LCycleTimetable;II)I"⟩
abbrev cL_setsUp : ByteArray := method_7_code
def yL_setsUp : MethodName := ⟨RL, "setsUp", "(LCycleTimetable;II)I"⟩
abbrev cL_turn : ByteArray := method_8_code
def yL_turn : MethodName := ⟨RL, "turn", "(LCycleTimetable;III)I"⟩
abbrev cL_some : ByteArray := method_9_code
def yL_some : MethodName := ⟨RL, "some", "(LCycleTimetable;II)I"⟩
abbrev cL_isTeacher : ByteArray := method_10_code
def yL_isTeacher : MethodName := ⟨RL, "isTeacher", "(LCycleTimetable;I)Z"⟩
abbrev cL_isCourse : ByteArray := method_11_code
def yL_isCourse : MethodName := ⟨RL, "isCourse", "(LCycleTimetable;I)Z"⟩
abbrev cL_areRight : ByteArray := method_12_code
def yL_areRight : MethodName := ⟨RL, "areRight", "(LCycleTimetable;)Z"⟩
abbrev cL_isUndone : ByteArray := method_13_code
def yL_isUndone : MethodName := ⟨RL, "isUndone", "(LCycleTimetable;IIIIJ)Z"⟩
abbrev cL_isKept : ByteArray := method_14_code
def yL_isKept : MethodName := ⟨RL, "isKept", "(LCycleTimetable;II)Z"⟩
abbrev cL_law : ByteArray := code
def yL_law : MethodName := ⟨RL, "law", "([I)Z"⟩
abbrev vwCl : List vw_C := [(RX0, TX0, 2), (RX1, TX1, 1), (RX2, TX2, 16), (RX3, TX3, 5), (RX4, TX4, 8)]

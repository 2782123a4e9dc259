-- ===== PART A: goes FIRST, ahead of the names: the tables' words, and 'selects' of the private methods out of them =====
/-- a private method of a class that the tables say can be made, by its rows of tables_1 -/
def lw_okq (q : MethodName × Nat) : Prop := (q.1.cls ≠ "java/lang/invoke/MethodHandle" ∧ q.1.cls ≠ "java/lang/invoke/VarHandle") ∧ Cond.instantiable q.1.cls q.2 ∈ tables_1 ∧ Cond.privateMethod q.1 ∈ tables_1 ∧ Cond.instanceMethod q.1 ∈ tables_1
theorem lw_p0 : lw_okq (⟨"CycleTimetable", "remember", "()V"⟩, 8) := ⟨⟨by decide +kernel, by decide +kernel⟩, List.mem_of_getElem? (i := 11) (by decide +kernel), List.mem_of_getElem? (i := 191) (by decide +kernel), List.mem_of_getElem? (i := 192) (by decide +kernel)⟩
theorem lw_p1 : lw_okq (⟨"CycleTimetable", "historyAt", "(I)LCycleTimetable$State;"⟩, 8) := ⟨⟨by decide +kernel, by decide +kernel⟩, List.mem_of_getElem? (i := 11) (by decide +kernel), List.mem_of_getElem? (i := 195) (by decide +kernel), List.mem_of_getElem? (i := 196) (by decide +kernel)⟩
theorem lw_p2 : lw_okq (⟨"CycleTimetable", "knowsGroup", "(I)Z"⟩, 8) := ⟨⟨by decide +kernel, by decide +kernel⟩, List.mem_of_getElem? (i := 11) (by decide +kernel), List.mem_of_getElem? (i := 275) (by decide +kernel), List.mem_of_getElem? (i := 276) (by decide +kernel)⟩
theorem lw_p3 : lw_okq (⟨"CycleTimetable", "knowsTeacher", "(I)Z"⟩, 8) := ⟨⟨by decide +kernel, by decide +kernel⟩, List.mem_of_getElem? (i := 11) (by decide +kernel), List.mem_of_getElem? (i := 279) (by decide +kernel), List.mem_of_getElem? (i := 280) (by decide +kernel)⟩
theorem lw_p4 : lw_okq (⟨"CycleTimetable", "knowsCourse", "(I)Z"⟩, 8) := ⟨⟨by decide +kernel, by decide +kernel⟩, List.mem_of_getElem? (i := 11) (by decide +kernel), List.mem_of_getElem? (i := 287) (by decide +kernel), List.mem_of_getElem? (i := 288) (by decide +kernel)⟩
theorem lw_p5 : lw_okq (⟨"CycleTimetable$State", "reasonOfSlot", "(II)I"⟩, 16) := ⟨⟨by decide +kernel, by decide +kernel⟩, List.mem_of_getElem? (i := 19) (by decide +kernel), List.mem_of_getElem? (i := 348) (by decide +kernel), List.mem_of_getElem? (i := 349) (by decide +kernel)⟩
theorem lw_p6 : lw_okq (⟨"CycleTimetable$State", "firstOfDayOf", "(I)I"⟩, 16) := ⟨⟨by decide +kernel, by decide +kernel⟩, List.mem_of_getElem? (i := 19) (by decide +kernel), List.mem_of_getElem? (i := 352) (by decide +kernel), List.mem_of_getElem? (i := 353) (by decide +kernel)⟩
theorem lw_p7 : lw_okq (⟨"CycleTimetable$State", "hasBusyGroup", "(II)Z"⟩, 16) := ⟨⟨by decide +kernel, by decide +kernel⟩, List.mem_of_getElem? (i := 19) (by decide +kernel), List.mem_of_getElem? (i := 360) (by decide +kernel), List.mem_of_getElem? (i := 361) (by decide +kernel)⟩
theorem lw_p8 : lw_okq (⟨"CycleTimetable$State", "isBusy", "(III)Z"⟩, 16) := ⟨⟨by decide +kernel, by decide +kernel⟩, List.mem_of_getElem? (i := 19) (by decide +kernel), List.mem_of_getElem? (i := 364) (by decide +kernel), List.mem_of_getElem? (i := 365) (by decide +kernel)⟩
theorem lw_p9 : lw_okq (⟨"CycleTimetable$State", "reasonOfRoom", "(III)I"⟩, 16) := ⟨⟨by decide +kernel, by decide +kernel⟩, List.mem_of_getElem? (i := 19) (by decide +kernel), List.mem_of_getElem? (i := 371) (by decide +kernel), List.mem_of_getElem? (i := 372) (by decide +kernel)⟩
theorem lw_p10 : lw_okq (⟨"CycleTimetable$State", "setHalves", "(IIIZ)V"⟩, 16) := ⟨⟨by decide +kernel, by decide +kernel⟩, List.mem_of_getElem? (i := 19) (by decide +kernel), List.mem_of_getElem? (i := 382) (by decide +kernel), List.mem_of_getElem? (i := 383) (by decide +kernel)⟩
theorem lw_p11 : lw_okq (⟨"CycleTimetable", "adoptTrial", "()V"⟩, 8) := ⟨⟨by decide +kernel, by decide +kernel⟩, List.mem_of_getElem? (i := 11) (by decide +kernel), List.mem_of_getElem? (i := 408) (by decide +kernel), List.mem_of_getElem? (i := 409) (by decide +kernel)⟩
theorem lw_p12 : lw_okq (⟨"CycleTimetable$Text", "readNumber", "()I"⟩, 5) := ⟨⟨by decide +kernel, by decide +kernel⟩, List.mem_of_getElem? (i := 118) (by decide +kernel), List.mem_of_getElem? (i := 449) (by decide +kernel), List.mem_of_getElem? (i := 450) (by decide +kernel)⟩
theorem lw_p13 : lw_okq (⟨"CycleTimetable$Text", "readDigit", "()I"⟩, 5) := ⟨⟨by decide +kernel, by decide +kernel⟩, List.mem_of_getElem? (i := 118) (by decide +kernel), List.mem_of_getElem? (i := 453) (by decide +kernel), List.mem_of_getElem? (i := 454) (by decide +kernel)⟩
theorem lw_p14 : lw_okq (⟨"CycleTimetable$Text", "reads", "(C)Z"⟩, 5) := ⟨⟨by decide +kernel, by decide +kernel⟩, List.mem_of_getElem? (i := 118) (by decide +kernel), List.mem_of_getElem? (i := 459) (by decide +kernel), List.mem_of_getElem? (i := 460) (by decide +kernel)⟩
theorem lw_p15 : lw_okq (⟨"CycleTimetable$Text", "putPlacing", "(III)V"⟩, 5) := ⟨⟨by decide +kernel, by decide +kernel⟩, List.mem_of_getElem? (i := 118) (by decide +kernel), List.mem_of_getElem? (i := 463) (by decide +kernel), List.mem_of_getElem? (i := 464) (by decide +kernel)⟩
def lw_privs_1 : List (MethodName × Nat) := [(⟨"CycleTimetable", "remember", "()V"⟩, 8), (⟨"CycleTimetable", "historyAt", "(I)LCycleTimetable$State;"⟩, 8), (⟨"CycleTimetable", "knowsGroup", "(I)Z"⟩, 8), (⟨"CycleTimetable", "knowsTeacher", "(I)Z"⟩, 8), (⟨"CycleTimetable", "knowsCourse", "(I)Z"⟩, 8), (⟨"CycleTimetable$State", "reasonOfSlot", "(II)I"⟩, 16), (⟨"CycleTimetable$State", "firstOfDayOf", "(I)I"⟩, 16), (⟨"CycleTimetable$State", "hasBusyGroup", "(II)Z"⟩, 16), (⟨"CycleTimetable$State", "isBusy", "(III)Z"⟩, 16), (⟨"CycleTimetable$State", "reasonOfRoom", "(III)I"⟩, 16), (⟨"CycleTimetable$State", "setHalves", "(IIIZ)V"⟩, 16), (⟨"CycleTimetable", "adoptTrial", "()V"⟩, 8), (⟨"CycleTimetable$Text", "readNumber", "()I"⟩, 5), (⟨"CycleTimetable$Text", "readDigit", "()I"⟩, 5), (⟨"CycleTimetable$Text", "reads", "(C)Z"⟩, 5), (⟨"CycleTimetable$Text", "putPlacing", "(III)V"⟩, 5)]
theorem lw_r1 : ∀ q ∈ lw_privs_1, lw_okq q := List.forall_mem_cons.mpr ⟨lw_p0, List.forall_mem_cons.mpr ⟨lw_p1, List.forall_mem_cons.mpr ⟨lw_p2, List.forall_mem_cons.mpr ⟨lw_p3, List.forall_mem_cons.mpr ⟨lw_p4, List.forall_mem_cons.mpr ⟨lw_p5, List.forall_mem_cons.mpr ⟨lw_p6, List.forall_mem_cons.mpr ⟨lw_p7, List.forall_mem_cons.mpr ⟨lw_p8, List.forall_mem_cons.mpr ⟨lw_p9, List.forall_mem_cons.mpr ⟨lw_p10, List.forall_mem_cons.mpr ⟨lw_p11, List.forall_mem_cons.mpr ⟨lw_p12, List.forall_mem_cons.mpr ⟨lw_p13, List.forall_mem_cons.mpr ⟨lw_p14, List.forall_mem_cons.mpr ⟨lw_p15, fun _ h => absurd h List.not_mem_nil⟩⟩⟩⟩⟩⟩⟩⟩⟩⟩⟩⟩⟩⟩⟩⟩
theorem lw_p16 : lw_okq (⟨"CycleTimetable$State", "freeRooms", "(II)I"⟩, 16) := ⟨⟨by decide +kernel, by decide +kernel⟩, List.mem_of_getElem? (i := 19) (by decide +kernel), List.mem_of_getElem? (i := 492) (by decide +kernel), List.mem_of_getElem? (i := 493) (by decide +kernel)⟩
theorem lw_p17 : lw_okq (⟨"CycleTimetableModel", "brings", "(I)V"⟩, 11) := ⟨⟨by decide +kernel, by decide +kernel⟩, List.mem_of_getElem? (i := 583) (by decide +kernel), List.mem_of_getElem? (i := 627) (by decide +kernel), List.mem_of_getElem? (i := 628) (by decide +kernel)⟩
theorem lw_p18 : lw_okq (⟨"CycleTimetableModel", "keeps", "(I)V"⟩, 11) := ⟨⟨by decide +kernel, by decide +kernel⟩, List.mem_of_getElem? (i := 583) (by decide +kernel), List.mem_of_getElem? (i := 635) (by decide +kernel), List.mem_of_getElem? (i := 636) (by decide +kernel)⟩
theorem lw_p19 : lw_okq (⟨"CycleTimetableModel", "placedInAll", "()I"⟩, 11) := ⟨⟨by decide +kernel, by decide +kernel⟩, List.mem_of_getElem? (i := 583) (by decide +kernel), List.mem_of_getElem? (i := 639) (by decide +kernel), List.mem_of_getElem? (i := 640) (by decide +kernel)⟩
theorem lw_p20 : lw_okq (⟨"CycleTimetableModel", "placed", "(I)I"⟩, 11) := ⟨⟨by decide +kernel, by decide +kernel⟩, List.mem_of_getElem? (i := 583) (by decide +kernel), List.mem_of_getElem? (i := 643) (by decide +kernel), List.mem_of_getElem? (i := 644) (by decide +kernel)⟩
theorem lw_p21 : lw_okq (⟨"CycleTimetableModel", "slots", "()I"⟩, 11) := ⟨⟨by decide +kernel, by decide +kernel⟩, List.mem_of_getElem? (i := 583) (by decide +kernel), List.mem_of_getElem? (i := 647) (by decide +kernel), List.mem_of_getElem? (i := 648) (by decide +kernel)⟩
theorem lw_p22 : lw_okq (⟨"CycleTimetableModel", "has", "(II)Z"⟩, 11) := ⟨⟨by decide +kernel, by decide +kernel⟩, List.mem_of_getElem? (i := 583) (by decide +kernel), List.mem_of_getElem? (i := 651) (by decide +kernel), List.mem_of_getElem? (i := 652) (by decide +kernel)⟩
theorem lw_p23 : lw_okq (⟨"CycleTimetableModel", "roomOf", "(II)I"⟩, 11) := ⟨⟨by decide +kernel, by decide +kernel⟩, List.mem_of_getElem? (i := 583) (by decide +kernel), List.mem_of_getElem? (i := 655) (by decide +kernel), List.mem_of_getElem? (i := 656) (by decide +kernel)⟩
theorem lw_p24 : lw_okq (⟨"CycleTimetableModel", "records", "()V"⟩, 11) := ⟨⟨by decide +kernel, by decide +kernel⟩, List.mem_of_getElem? (i := 583) (by decide +kernel), List.mem_of_getElem? (i := 663) (by decide +kernel), List.mem_of_getElem? (i := 664) (by decide +kernel)⟩
theorem lw_p25 : lw_okq (⟨"CycleTimetableModel", "recordsTrial", "()V"⟩, 11) := ⟨⟨by decide +kernel, by decide +kernel⟩, List.mem_of_getElem? (i := 583) (by decide +kernel), List.mem_of_getElem? (i := 667) (by decide +kernel), List.mem_of_getElem? (i := 668) (by decide +kernel)⟩
theorem lw_p26 : lw_okq (⟨"CycleTimetableModel", "holidays", "(I)I"⟩, 11) := ⟨⟨by decide +kernel, by decide +kernel⟩, List.mem_of_getElem? (i := 583) (by decide +kernel), List.mem_of_getElem? (i := 682) (by decide +kernel), List.mem_of_getElem? (i := 683) (by decide +kernel)⟩
theorem lw_p27 : lw_okq (⟨"CycleTimetableModel", "dayBy", "(I)I"⟩, 11) := ⟨⟨by decide +kernel, by decide +kernel⟩, List.mem_of_getElem? (i := 583) (by decide +kernel), List.mem_of_getElem? (i := 690) (by decide +kernel), List.mem_of_getElem? (i := 691) (by decide +kernel)⟩
theorem lw_p28 : lw_okq (⟨"CycleTimetableModel", "isGroup", "(I)Z"⟩, 11) := ⟨⟨by decide +kernel, by decide +kernel⟩, List.mem_of_getElem? (i := 583) (by decide +kernel), List.mem_of_getElem? (i := 714) (by decide +kernel), List.mem_of_getElem? (i := 715) (by decide +kernel)⟩
theorem lw_p29 : lw_okq (⟨"CycleTimetableModel", "isTeacher", "(I)Z"⟩, 11) := ⟨⟨by decide +kernel, by decide +kernel⟩, List.mem_of_getElem? (i := 583) (by decide +kernel), List.mem_of_getElem? (i := 718) (by decide +kernel), List.mem_of_getElem? (i := 719) (by decide +kernel)⟩
theorem lw_p30 : lw_okq (⟨"CycleTimetableModel", "isCourse", "(I)Z"⟩, 11) := ⟨⟨by decide +kernel, by decide +kernel⟩, List.mem_of_getElem? (i := 583) (by decide +kernel), List.mem_of_getElem? (i := 726) (by decide +kernel), List.mem_of_getElem? (i := 727) (by decide +kernel)⟩
theorem lw_p31 : lw_okq (⟨"CycleTimetableModel", "of", "(II)I"⟩, 11) := ⟨⟨by decide +kernel, by decide +kernel⟩, List.mem_of_getElem? (i := 583) (by decide +kernel), List.mem_of_getElem? (i := 730) (by decide +kernel), List.mem_of_getElem? (i := 731) (by decide +kernel)⟩
def lw_privs_2 : List (MethodName × Nat) := [(⟨"CycleTimetable$State", "freeRooms", "(II)I"⟩, 16), (⟨"CycleTimetableModel", "brings", "(I)V"⟩, 11), (⟨"CycleTimetableModel", "keeps", "(I)V"⟩, 11), (⟨"CycleTimetableModel", "placedInAll", "()I"⟩, 11), (⟨"CycleTimetableModel", "placed", "(I)I"⟩, 11), (⟨"CycleTimetableModel", "slots", "()I"⟩, 11), (⟨"CycleTimetableModel", "has", "(II)Z"⟩, 11), (⟨"CycleTimetableModel", "roomOf", "(II)I"⟩, 11), (⟨"CycleTimetableModel", "records", "()V"⟩, 11), (⟨"CycleTimetableModel", "recordsTrial", "()V"⟩, 11), (⟨"CycleTimetableModel", "holidays", "(I)I"⟩, 11), (⟨"CycleTimetableModel", "dayBy", "(I)I"⟩, 11), (⟨"CycleTimetableModel", "isGroup", "(I)Z"⟩, 11), (⟨"CycleTimetableModel", "isTeacher", "(I)Z"⟩, 11), (⟨"CycleTimetableModel", "isCourse", "(I)Z"⟩, 11), (⟨"CycleTimetableModel", "of", "(II)I"⟩, 11)]
theorem lw_r2 : ∀ q ∈ lw_privs_2, lw_okq q := List.forall_mem_cons.mpr ⟨lw_p16, List.forall_mem_cons.mpr ⟨lw_p17, List.forall_mem_cons.mpr ⟨lw_p18, List.forall_mem_cons.mpr ⟨lw_p19, List.forall_mem_cons.mpr ⟨lw_p20, List.forall_mem_cons.mpr ⟨lw_p21, List.forall_mem_cons.mpr ⟨lw_p22, List.forall_mem_cons.mpr ⟨lw_p23, List.forall_mem_cons.mpr ⟨lw_p24, List.forall_mem_cons.mpr ⟨lw_p25, List.forall_mem_cons.mpr ⟨lw_p26, List.forall_mem_cons.mpr ⟨lw_p27, List.forall_mem_cons.mpr ⟨lw_p28, List.forall_mem_cons.mpr ⟨lw_p29, List.forall_mem_cons.mpr ⟨lw_p30, List.forall_mem_cons.mpr ⟨lw_p31, fun _ h => absurd h List.not_mem_nil⟩⟩⟩⟩⟩⟩⟩⟩⟩⟩⟩⟩⟩⟩⟩⟩
theorem lw_p32 : lw_okq (⟨"CycleTimetableModel", "isSlot", "(I)Z"⟩, 11) := ⟨⟨by decide +kernel, by decide +kernel⟩, List.mem_of_getElem? (i := 583) (by decide +kernel), List.mem_of_getElem? (i := 738) (by decide +kernel), List.mem_of_getElem? (i := 739) (by decide +kernel)⟩
theorem lw_p33 : lw_okq (⟨"CycleTimetableModel", "courseOf", "(II)I"⟩, 11) := ⟨⟨by decide +kernel, by decide +kernel⟩, List.mem_of_getElem? (i := 583) (by decide +kernel), List.mem_of_getElem? (i := 742) (by decide +kernel), List.mem_of_getElem? (i := 743) (by decide +kernel)⟩
theorem lw_p34 : lw_okq (⟨"CycleTimetableModel", "isBarred", "(II)Z"⟩, 11) := ⟨⟨by decide +kernel, by decide +kernel⟩, List.mem_of_getElem? (i := 583) (by decide +kernel), List.mem_of_getElem? (i := 746) (by decide +kernel), List.mem_of_getElem? (i := 747) (by decide +kernel)⟩
theorem lw_p35 : lw_okq (⟨"CycleTimetableModel", "barred", "(I)I"⟩, 11) := ⟨⟨by decide +kernel, by decide +kernel⟩, List.mem_of_getElem? (i := 583) (by decide +kernel), List.mem_of_getElem? (i := 750) (by decide +kernel), List.mem_of_getElem? (i := 751) (by decide +kernel)⟩
theorem lw_p36 : lw_okq (⟨"CycleTimetableModel", "isRoom", "(I)Z"⟩, 11) := ⟨⟨by decide +kernel, by decide +kernel⟩, List.mem_of_getElem? (i := 583) (by decide +kernel), List.mem_of_getElem? (i := 758) (by decide +kernel), List.mem_of_getElem? (i := 759) (by decide +kernel)⟩
theorem lw_p37 : lw_okq (⟨"CycleTimetableModel", "reasonOf", "(III)I"⟩, 11) := ⟨⟨by decide +kernel, by decide +kernel⟩, List.mem_of_getElem? (i := 583) (by decide +kernel), List.mem_of_getElem? (i := 762) (by decide +kernel), List.mem_of_getElem? (i := 763) (by decide +kernel)⟩
theorem lw_p38 : lw_okq (⟨"CycleTimetableModel", "onDay", "(IIZ)I"⟩, 11) := ⟨⟨by decide +kernel, by decide +kernel⟩, List.mem_of_getElem? (i := 583) (by decide +kernel), List.mem_of_getElem? (i := 766) (by decide +kernel), List.mem_of_getElem? (i := 767) (by decide +kernel)⟩
theorem lw_p39 : lw_okq (⟨"CycleTimetableModel", "lessonsOf", "(I)I"⟩, 11) := ⟨⟨by decide +kernel, by decide +kernel⟩, List.mem_of_getElem? (i := 583) (by decide +kernel), List.mem_of_getElem? (i := 770) (by decide +kernel), List.mem_of_getElem? (i := 771) (by decide +kernel)⟩
theorem lw_p40 : lw_okq (⟨"CycleTimetableModel", "isBusy", "(II)Z"⟩, 11) := ⟨⟨by decide +kernel, by decide +kernel⟩, List.mem_of_getElem? (i := 583) (by decide +kernel), List.mem_of_getElem? (i := 774) (by decide +kernel), List.mem_of_getElem? (i := 775) (by decide +kernel)⟩
theorem lw_p41 : lw_okq (⟨"CycleTimetableModel", "isFor", "(II)Z"⟩, 11) := ⟨⟨by decide +kernel, by decide +kernel⟩, List.mem_of_getElem? (i := 583) (by decide +kernel), List.mem_of_getElem? (i := 778) (by decide +kernel), List.mem_of_getElem? (i := 779) (by decide +kernel)⟩
theorem lw_p42 : lw_okq (⟨"CycleTimetableModel", "courseIn", "(II)I"⟩, 11) := ⟨⟨by decide +kernel, by decide +kernel⟩, List.mem_of_getElem? (i := 583) (by decide +kernel), List.mem_of_getElem? (i := 782) (by decide +kernel), List.mem_of_getElem? (i := 783) (by decide +kernel)⟩
theorem lw_p43 : lw_okq (⟨"CycleTimetableModel", "placeError", "(III)I"⟩, 11) := ⟨⟨by decide +kernel, by decide +kernel⟩, List.mem_of_getElem? (i := 583) (by decide +kernel), List.mem_of_getElem? (i := 790) (by decide +kernel), List.mem_of_getElem? (i := 791) (by decide +kernel)⟩
theorem lw_p44 : lw_okq (⟨"CycleTimetableModel", "puts", "(III)V"⟩, 11) := ⟨⟨by decide +kernel, by decide +kernel⟩, List.mem_of_getElem? (i := 583) (by decide +kernel), List.mem_of_getElem? (i := 794) (by decide +kernel), List.mem_of_getElem? (i := 795) (by decide +kernel)⟩
theorem lw_p45 : lw_okq (⟨"CycleTimetableModel", "isLesson", "(II)Z"⟩, 11) := ⟨⟨by decide +kernel, by decide +kernel⟩, List.mem_of_getElem? (i := 583) (by decide +kernel), List.mem_of_getElem? (i := 802) (by decide +kernel), List.mem_of_getElem? (i := 803) (by decide +kernel)⟩
theorem lw_p46 : lw_okq (⟨"CycleTimetableModel", "lessonsIn", "(I)I"⟩, 11) := ⟨⟨by decide +kernel, by decide +kernel⟩, List.mem_of_getElem? (i := 583) (by decide +kernel), List.mem_of_getElem? (i := 814) (by decide +kernel), List.mem_of_getElem? (i := 815) (by decide +kernel)⟩
theorem lw_p47 : lw_okq (⟨"CycleTimetableModel", "fills", "(I)Z"⟩, 11) := ⟨⟨by decide +kernel, by decide +kernel⟩, List.mem_of_getElem? (i := 583) (by decide +kernel), List.mem_of_getElem? (i := 822) (by decide +kernel), List.mem_of_getElem? (i := 823) (by decide +kernel)⟩
def lw_privs_3 : List (MethodName × Nat) := [(⟨"CycleTimetableModel", "isSlot", "(I)Z"⟩, 11), (⟨"CycleTimetableModel", "courseOf", "(II)I"⟩, 11), (⟨"CycleTimetableModel", "isBarred", "(II)Z"⟩, 11), (⟨"CycleTimetableModel", "barred", "(I)I"⟩, 11), (⟨"CycleTimetableModel", "isRoom", "(I)Z"⟩, 11), (⟨"CycleTimetableModel", "reasonOf", "(III)I"⟩, 11), (⟨"CycleTimetableModel", "onDay", "(IIZ)I"⟩, 11), (⟨"CycleTimetableModel", "lessonsOf", "(I)I"⟩, 11), (⟨"CycleTimetableModel", "isBusy", "(II)Z"⟩, 11), (⟨"CycleTimetableModel", "isFor", "(II)Z"⟩, 11), (⟨"CycleTimetableModel", "courseIn", "(II)I"⟩, 11), (⟨"CycleTimetableModel", "placeError", "(III)I"⟩, 11), (⟨"CycleTimetableModel", "puts", "(III)V"⟩, 11), (⟨"CycleTimetableModel", "isLesson", "(II)Z"⟩, 11), (⟨"CycleTimetableModel", "lessonsIn", "(I)I"⟩, 11), (⟨"CycleTimetableModel", "fills", "(I)Z"⟩, 11)]
theorem lw_r3 : ∀ q ∈ lw_privs_3, lw_okq q := List.forall_mem_cons.mpr ⟨lw_p32, List.forall_mem_cons.mpr ⟨lw_p33, List.forall_mem_cons.mpr ⟨lw_p34, List.forall_mem_cons.mpr ⟨lw_p35, List.forall_mem_cons.mpr ⟨lw_p36, List.forall_mem_cons.mpr ⟨lw_p37, List.forall_mem_cons.mpr ⟨lw_p38, List.forall_mem_cons.mpr ⟨lw_p39, List.forall_mem_cons.mpr ⟨lw_p40, List.forall_mem_cons.mpr ⟨lw_p41, List.forall_mem_cons.mpr ⟨lw_p42, List.forall_mem_cons.mpr ⟨lw_p43, List.forall_mem_cons.mpr ⟨lw_p44, List.forall_mem_cons.mpr ⟨lw_p45, List.forall_mem_cons.mpr ⟨lw_p46, List.forall_mem_cons.mpr ⟨lw_p47, fun _ h => absurd h List.not_mem_nil⟩⟩⟩⟩⟩⟩⟩⟩⟩⟩⟩⟩⟩⟩⟩⟩
theorem lw_p48 : lw_okq (⟨"CycleTimetableModel", "faultOf", "()I"⟩, 11) := ⟨⟨by decide +kernel, by decide +kernel⟩, List.mem_of_getElem? (i := 583) (by decide +kernel), List.mem_of_getElem? (i := 838) (by decide +kernel), List.mem_of_getElem? (i := 839) (by decide +kernel)⟩
theorem lw_p49 : lw_okq (⟨"CycleTimetableModel", "passesPlacing", "()Z"⟩, 11) := ⟨⟨by decide +kernel, by decide +kernel⟩, List.mem_of_getElem? (i := 583) (by decide +kernel), List.mem_of_getElem? (i := 842) (by decide +kernel), List.mem_of_getElem? (i := 843) (by decide +kernel)⟩
theorem lw_p50 : lw_okq (⟨"CycleTimetableModel", "passesNumber", "(I)Z"⟩, 11) := ⟨⟨by decide +kernel, by decide +kernel⟩, List.mem_of_getElem? (i := 583) (by decide +kernel), List.mem_of_getElem? (i := 846) (by decide +kernel), List.mem_of_getElem? (i := 847) (by decide +kernel)⟩
theorem lw_p51 : lw_okq (⟨"CycleTimetableModel", "isHere", "(II)Z"⟩, 11) := ⟨⟨by decide +kernel, by decide +kernel⟩, List.mem_of_getElem? (i := 583) (by decide +kernel), List.mem_of_getElem? (i := 850) (by decide +kernel), List.mem_of_getElem? (i := 851) (by decide +kernel)⟩
theorem lw_p52 : lw_okq (⟨"CycleTimetableModel", "passesSign", "(I)Z"⟩, 11) := ⟨⟨by decide +kernel, by decide +kernel⟩, List.mem_of_getElem? (i := 583) (by decide +kernel), List.mem_of_getElem? (i := 854) (by decide +kernel), List.mem_of_getElem? (i := 855) (by decide +kernel)⟩
theorem lw_p53 : lw_okq (⟨"CycleTimetableModel", "placesFor", "(I)I"⟩, 11) := ⟨⟨by decide +kernel, by decide +kernel⟩, List.mem_of_getElem? (i := 583) (by decide +kernel), List.mem_of_getElem? (i := 862) (by decide +kernel), List.mem_of_getElem? (i := 863) (by decide +kernel)⟩
theorem lw_p54 : lw_okq (⟨"CycleTimetableModel", "courseFor", "(III)I"⟩, 11) := ⟨⟨by decide +kernel, by decide +kernel⟩, List.mem_of_getElem? (i := 583) (by decide +kernel), List.mem_of_getElem? (i := 874) (by decide +kernel), List.mem_of_getElem? (i := 875) (by decide +kernel)⟩
theorem lw_p55 : lw_okq (⟨"CycleTimetableModel", "takesPart", "(III)Z"⟩, 11) := ⟨⟨by decide +kernel, by decide +kernel⟩, List.mem_of_getElem? (i := 583) (by decide +kernel), List.mem_of_getElem? (i := 878) (by decide +kernel), List.mem_of_getElem? (i := 879) (by decide +kernel)⟩
theorem lw_p56 : lw_okq (⟨"CycleTimetableModel", "coursesOf", "(IZ)I"⟩, 11) := ⟨⟨by decide +kernel, by decide +kernel⟩, List.mem_of_getElem? (i := 583) (by decide +kernel), List.mem_of_getElem? (i := 894) (by decide +kernel), List.mem_of_getElem? (i := 895) (by decide +kernel)⟩
theorem lw_p57 : lw_okq (⟨"CycleTimetableModel", "mostOnDay", "(I)I"⟩, 11) := ⟨⟨by decide +kernel, by decide +kernel⟩, List.mem_of_getElem? (i := 583) (by decide +kernel), List.mem_of_getElem? (i := 898) (by decide +kernel), List.mem_of_getElem? (i := 899) (by decide +kernel)⟩
theorem lw_p58 : lw_okq (⟨"CycleTimetableModel", "windows", "(II)I"⟩, 11) := ⟨⟨by decide +kernel, by decide +kernel⟩, List.mem_of_getElem? (i := 583) (by decide +kernel), List.mem_of_getElem? (i := 902) (by decide +kernel), List.mem_of_getElem? (i := 903) (by decide +kernel)⟩
theorem lw_p59 : lw_okq (⟨"CycleTimetableModel", "lessonsFor", "(IIZ)I"⟩, 11) := ⟨⟨by decide +kernel, by decide +kernel⟩, List.mem_of_getElem? (i := 583) (by decide +kernel), List.mem_of_getElem? (i := 910) (by decide +kernel), List.mem_of_getElem? (i := 911) (by decide +kernel)⟩
theorem lw_p60 : lw_okq (⟨"CycleTimetableModel", "taken", "(I)I"⟩, 11) := ⟨⟨by decide +kernel, by decide +kernel⟩, List.mem_of_getElem? (i := 583) (by decide +kernel), List.mem_of_getElem? (i := 918) (by decide +kernel), List.mem_of_getElem? (i := 919) (by decide +kernel)⟩
theorem lw_p61 : lw_okq (⟨"CycleTimetableModel", "lessonsInAll", "()I"⟩, 11) := ⟨⟨by decide +kernel, by decide +kernel⟩, List.mem_of_getElem? (i := 583) (by decide +kernel), List.mem_of_getElem? (i := 926) (by decide +kernel), List.mem_of_getElem? (i := 927) (by decide +kernel)⟩
def lw_privs_4 : List (MethodName × Nat) := [(⟨"CycleTimetableModel", "faultOf", "()I"⟩, 11), (⟨"CycleTimetableModel", "passesPlacing", "()Z"⟩, 11), (⟨"CycleTimetableModel", "passesNumber", "(I)Z"⟩, 11), (⟨"CycleTimetableModel", "isHere", "(II)Z"⟩, 11), (⟨"CycleTimetableModel", "passesSign", "(I)Z"⟩, 11), (⟨"CycleTimetableModel", "placesFor", "(I)I"⟩, 11), (⟨"CycleTimetableModel", "courseFor", "(III)I"⟩, 11), (⟨"CycleTimetableModel", "takesPart", "(III)Z"⟩, 11), (⟨"CycleTimetableModel", "coursesOf", "(IZ)I"⟩, 11), (⟨"CycleTimetableModel", "mostOnDay", "(I)I"⟩, 11), (⟨"CycleTimetableModel", "windows", "(II)I"⟩, 11), (⟨"CycleTimetableModel", "lessonsFor", "(IIZ)I"⟩, 11), (⟨"CycleTimetableModel", "taken", "(I)I"⟩, 11), (⟨"CycleTimetableModel", "lessonsInAll", "()I"⟩, 11)]
theorem lw_r4 : ∀ q ∈ lw_privs_4, lw_okq q := List.forall_mem_cons.mpr ⟨lw_p48, List.forall_mem_cons.mpr ⟨lw_p49, List.forall_mem_cons.mpr ⟨lw_p50, List.forall_mem_cons.mpr ⟨lw_p51, List.forall_mem_cons.mpr ⟨lw_p52, List.forall_mem_cons.mpr ⟨lw_p53, List.forall_mem_cons.mpr ⟨lw_p54, List.forall_mem_cons.mpr ⟨lw_p55, List.forall_mem_cons.mpr ⟨lw_p56, List.forall_mem_cons.mpr ⟨lw_p57, List.forall_mem_cons.mpr ⟨lw_p58, List.forall_mem_cons.mpr ⟨lw_p59, List.forall_mem_cons.mpr ⟨lw_p60, List.forall_mem_cons.mpr ⟨lw_p61, fun _ h => absurd h List.not_mem_nil⟩⟩⟩⟩⟩⟩⟩⟩⟩⟩⟩⟩⟩⟩
def lw_privs : List (MethodName × Nat) := lw_privs_1 ++ (lw_privs_2 ++ (lw_privs_3 ++ (lw_privs_4)))
def lw_tbl : List Cond := k2_sels lw_privs ++ tables_1
theorem lw_privs_ok : ∀ q ∈ lw_privs, lw_okq q := by
  show ∀ q ∈ lw_privs_1 ++ (lw_privs_2 ++ (lw_privs_3 ++ (lw_privs_4))), lw_okq q
  exact List.forall_mem_append.mpr ⟨lw_r1, List.forall_mem_append.mpr ⟨lw_r2, List.forall_mem_append.mpr ⟨lw_r3, lw_r4⟩⟩⟩

def RX0 : String := "CycleTimetable$Numbers"
def TX0 : u_T := fun k => match k with
  | 0 => ("CycleTimetable$Numbers", "width", "I", true)
  | _ => ("CycleTimetable$Numbers", "cells", "[I", true)
def tyX0 : Nat → FieldType := fun k => match k with
  | 0 => .int
  | _ => .array .int
abbrev wsX00 : List Cond := u_ws RX0 TX0 2
theorem nmX0 : ∀ a, a < 2 → ∀ b, b < 2 → a ≠ b → (TX0 a).2.1 ≠ (TX0 b).2.1 := by decide +kernel
theorem tyX0_ok : ∀ k, k < 2 → parseFieldDescriptor (TX0 k).2.2.1 = some (tyX0 k) := by decide +kernel
abbrev cX0_init : ByteArray := prog_2_method_1_code
def yX0_init : MethodName := ⟨RX0, "<init>", "(II)V"⟩
abbrev cX0_get : ByteArray := prog_2_method_2_code
def yX0_get : MethodName := ⟨RX0, "get", "(II)I"⟩
abbrev cX0_set : ByteArray := prog_2_method_3_code
def yX0_set : MethodName := ⟨RX0, "set", "(III)V"⟩
abbrev cX0_copyFrom : ByteArray := prog_2_method_4_code
def yX0_copyFrom : MethodName := ⟨RX0, "copyFrom", "(LCycleTimetable$Numbers;)V"⟩
def RX1 : String := "CycleTimetable$Sets"
def TX1 : u_T := fun k => match k with
  | _ => ("CycleTimetable$Sets", "rows", "[J", true)
def tyX1 : Nat → FieldType := fun k => match k with
  | _ => .array .long
abbrev wsX10 : List Cond := u_ws RX1 TX1 1
theorem nmX1 : ∀ a, a < 1 → ∀ b, b < 1 → a ≠ b → (TX1 a).2.1 ≠ (TX1 b).2.1 := by decide +kernel
theorem tyX1_ok : ∀ k, k < 1 → parseFieldDescriptor (TX1 k).2.2.1 = some (tyX1 k) := by decide +kernel
abbrev cX1_init : ByteArray := prog_3_method_1_code
def yX1_init : MethodName := ⟨RX1, "<init>", "(I)V"⟩
abbrev cX1_has : ByteArray := prog_3_method_2_code
def yX1_has : MethodName := ⟨RX1, "has", "(II)Z"⟩
abbrev cX1_size : ByteArray := prog_3_method_3_code
def yX1_size : MethodName := ⟨RX1, "size", "(I)I"⟩
abbrev cX1_sizeWithin : ByteArray := prog_3_method_4_code
def yX1_sizeWithin : MethodName := ⟨RX1, "sizeWithin", "(III)I"⟩
abbrev cX1_gapsWithin : ByteArray := prog_3_method_5_code
def yX1_gapsWithin : MethodName := ⟨RX1, "gapsWithin", "(III)I"⟩
abbrev cX1_set : ByteArray := prog_3_method_6_code
def yX1_set : MethodName := ⟨RX1, "set", "(IIZ)V"⟩
abbrev cX1_sizeOfAll : ByteArray := prog_3_method_7_code
def yX1_sizeOfAll : MethodName := ⟨RX1, "sizeOfAll", "()I"⟩
abbrev cX1_clear : ByteArray := prog_3_method_8_code
def yX1_clear : MethodName := ⟨RX1, "clear", "()V"⟩
abbrev cX1_copyFrom : ByteArray := prog_3_method_9_code
def yX1_copyFrom : MethodName := ⟨RX1, "copyFrom", "(LCycleTimetable$Sets;)V"⟩
def RX2 : String := "CycleTimetable$State"
def TX2 : u_T := fun k => match k with
  | 0 => ("CycleTimetable$State", "days", "I", false)
  | 1 => ("CycleTimetable$State", "periods", "I", false)
  | 2 => ("CycleTimetable$State", "groups", "I", false)
  | 3 => ("CycleTimetable$State", "teachers", "I", false)
  | 4 => ("CycleTimetable$State", "rooms", "I", false)
  | 5 => ("CycleTimetable$State", "courses", "I", false)
  | 6 => ("CycleTimetable$State", "teacherFacts", "LCycleTimetable$Numbers;", true)
  | 7 => ("CycleTimetable$State", "roomEquipment", "LCycleTimetable$Numbers;", true)
  | 8 => ("CycleTimetable$State", "courseFacts", "LCycleTimetable$Numbers;", true)
  | 9 => ("CycleTimetable$State", "holidays", "LCycleTimetable$Sets;", true)
  | 10 => ("CycleTimetable$State", "barred", "LCycleTimetable$Sets;", true)
  | 11 => ("CycleTimetable$State", "ofCourseInRoom", "LCycleTimetable$Sets;", true)
  | 12 => ("CycleTimetable$State", "ofCourse", "LCycleTimetable$Sets;", true)
  | 13 => ("CycleTimetable$State", "ofTeacher", "LCycleTimetable$Sets;", true)
  | 14 => ("CycleTimetable$State", "ofRoom", "LCycleTimetable$Sets;", true)
  | _ => ("CycleTimetable$State", "ofHalf", "LCycleTimetable$Sets;", true)
def tyX2 : Nat → FieldType := fun k => match k with
  | 0 => .int
  | 1 => .int
  | 2 => .int
  | 3 => .int
  | 4 => .int
  | 5 => .int
  | 6 => .object "CycleTimetable$Numbers"
  | 7 => .object "CycleTimetable$Numbers"
  | 8 => .object "CycleTimetable$Numbers"
  | 9 => .object "CycleTimetable$Sets"
  | 10 => .object "CycleTimetable$Sets"
  | 11 => .object "CycleTimetable$Sets"
  | 12 => .object "CycleTimetable$Sets"
  | 13 => .object "CycleTimetable$Sets"
  | 14 => .object "CycleTimetable$Sets"
  | _ => .object "CycleTimetable$Sets"
abbrev wsX20 : List Cond := u_ws RX2 TX2 16
theorem nmX2 : ∀ a, a < 16 → ∀ b, b < 16 → a ≠ b → (TX2 a).2.1 ≠ (TX2 b).2.1 := by decide +kernel
theorem tyX2_ok : ∀ k, k < 16 → parseFieldDescriptor (TX2 k).2.2.1 = some (tyX2 k) := by decide +kernel
abbrev cX2_init : ByteArray := prog_4_method_1_code
def yX2_init : MethodName := ⟨RX2, "<init>", "()V"⟩
abbrev cX2_copyFrom : ByteArray := prog_4_method_2_code
def yX2_copyFrom : MethodName := ⟨RX2, "copyFrom", "(LCycleTimetable$State;)V"⟩
abbrev cX2_slots : ByteArray := prog_4_method_3_code
def yX2_slots : MethodName := ⟨RX2, "slots", "()I"⟩
abbrev cX2_knowsSlot : ByteArray := prog_4_method_4_code
def yX2_knowsSlot : MethodName := ⟨RX2, "knowsSlot", "(I)Z"⟩
abbrev cX2_firstOfDayOf : ByteArray := prog_4_method_5_code
def yX2_firstOfDayOf : MethodName := ⟨RX2, "firstOfDayOf", "(I)I"⟩
abbrev cX2_isHoliday : ByteArray := prog_4_method_6_code
def yX2_isHoliday : MethodName := ⟨RX2, "isHoliday", "(I)Z"⟩
abbrev cX2_setHoliday : ByteArray := prog_4_method_7_code
def yX2_setHoliday : MethodName := ⟨RX2, "setHoliday", "(IZ)V"⟩
abbrev cX2_allHolidays : ByteArray := prog_4_method_8_code
def yX2_allHolidays : MethodName := ⟨RX2, "allHolidays", "()I"⟩
abbrev cX2_openBefore : ByteArray := prog_4_method_9_code
def yX2_openBefore : MethodName := ⟨RX2, "openBefore", "(I)I"⟩
abbrev cX2_dayAfter : ByteArray := prog_4_method_10_code
def yX2_dayAfter : MethodName := ⟨RX2, "dayAfter", "(I)I"⟩
abbrev cX2_knowsCourse : ByteArray := prog_4_method_11_code
def yX2_knowsCourse : MethodName := ⟨RX2, "knowsCourse", "(I)Z"⟩
abbrev cX2_knowsRoom : ByteArray := prog_4_method_12_code
def yX2_knowsRoom : MethodName := ⟨RX2, "knowsRoom", "(I)Z"⟩
abbrev cX2_fact : ByteArray := prog_4_method_13_code
def yX2_fact : MethodName := ⟨RX2, "fact", "(II)I"⟩
abbrev cX2_isFor : ByteArray := prog_4_method_14_code
def yX2_isFor : MethodName := ⟨RX2, "isFor", "(III)Z"⟩
abbrev cX2_rowOfHalf : ByteArray := prog_4_method_15_code
def yX2_rowOfHalf : MethodName := ⟨RX2, "rowOfHalf", "(II)I"⟩
abbrev cX2_coursesOfTeacher : ByteArray := prog_4_method_16_code
def yX2_coursesOfTeacher : MethodName := ⟨RX2, "coursesOfTeacher", "(I)I"⟩
abbrev cX2_lessonsOfTeacher : ByteArray := prog_4_method_17_code
def yX2_lessonsOfTeacher : MethodName := ⟨RX2, "lessonsOfTeacher", "(I)I"⟩
abbrev cX2_knowsLesson : ByteArray := prog_4_method_18_code
def yX2_knowsLesson : MethodName := ⟨RX2, "knowsLesson", "(II)Z"⟩
abbrev cX2_setLesson : ByteArray := prog_4_method_19_code
def yX2_setLesson : MethodName := ⟨RX2, "setLesson", "(IIIZ)V"⟩
abbrev cX2_setHalves : ByteArray := prog_4_method_20_code
def yX2_setHalves : MethodName := ⟨RX2, "setHalves", "(IIIZ)V"⟩
abbrev cX2_rowInRoom : ByteArray := prog_4_method_21_code
def yX2_rowInRoom : MethodName := ⟨RX2, "rowInRoom", "(II)I"⟩
abbrev cX2_isInRoom : ByteArray := prog_4_method_22_code
def yX2_isInRoom : MethodName := ⟨RX2, "isInRoom", "(III)Z"⟩
abbrev cX2_roomOf : ByteArray := prog_4_method_23_code
def yX2_roomOf : MethodName := ⟨RX2, "roomOf", "(II)I"⟩
abbrev cX2_placed : ByteArray := prog_4_method_24_code
def yX2_placed : MethodName := ⟨RX2, "placed", "(I)I"⟩
abbrev cX2_missing : ByteArray := prog_4_method_25_code
def yX2_missing : MethodName := ⟨RX2, "missing", "(I)I"⟩
abbrev cX2_allPlaced : ByteArray := prog_4_method_26_code
def yX2_allPlaced : MethodName := ⟨RX2, "allPlaced", "()I"⟩
abbrev cX2_allMissing : ByteArray := prog_4_method_27_code
def yX2_allMissing : MethodName := ⟨RX2, "allMissing", "()I"⟩
abbrev cX2_missingOfHalf : ByteArray := prog_4_method_28_code
def yX2_missingOfHalf : MethodName := ⟨RX2, "missingOfHalf", "(II)I"⟩
abbrev cX2_lessonsIn : ByteArray := prog_4_method_29_code
def yX2_lessonsIn : MethodName := ⟨RX2, "lessonsIn", "(I)I"⟩
abbrev cX2_mostOnADay : ByteArray := prog_4_method_30_code
def yX2_mostOnADay : MethodName := ⟨RX2, "mostOnADay", "(I)I"⟩
abbrev cX2_windows : ByteArray := prog_4_method_31_code
def yX2_windows : MethodName := ⟨RX2, "windows", "(LCycleTimetable$Sets;I)I"⟩
abbrev cX2_errorOfPlacing : ByteArray := prog_4_method_32_code
def yX2_errorOfPlacing : MethodName := ⟨RX2, "errorOfPlacing", "(III)I"⟩
abbrev cX2_firstReason : ByteArray := prog_4_method_33_code
def yX2_firstReason : MethodName := ⟨RX2, "firstReason", "(III)I"⟩
abbrev cX2_reasonOfSlot : ByteArray := prog_4_method_34_code
def yX2_reasonOfSlot : MethodName := ⟨RX2, "reasonOfSlot", "(II)I"⟩
abbrev cX2_reasonOfRoom : ByteArray := prog_4_method_35_code
def yX2_reasonOfRoom : MethodName := ⟨RX2, "reasonOfRoom", "(III)I"⟩
abbrev cX2_hasBusyGroup : ByteArray := prog_4_method_36_code
def yX2_hasBusyGroup : MethodName := ⟨RX2, "hasBusyGroup", "(II)Z"⟩
abbrev cX2_isBusy : ByteArray := prog_4_method_37_code
def yX2_isBusy : MethodName := ⟨RX2, "isBusy", "(III)Z"⟩
abbrev cX2_lowestFreeRoom : ByteArray := prog_4_method_38_code
def yX2_lowestFreeRoom : MethodName := ⟨RX2, "lowestFreeRoom", "(II)I"⟩
abbrev cX2_freePlaces : ByteArray := prog_4_method_39_code
def yX2_freePlaces : MethodName := ⟨RX2, "freePlaces", "(I)I"⟩
abbrev cX2_freeRooms : ByteArray := prog_4_method_40_code
def yX2_freeRooms : MethodName := ⟨RX2, "freeRooms", "(II)I"⟩
def RX3 : String := "CycleTimetable$Text"
def TX3 : u_T := fun k => match k with
  | 0 => ("CycleTimetable$Text", "length", "I", false)
  | 1 => ("CycleTimetable$Text", "found", "I", false)
  | 2 => ("CycleTimetable$Text", "placings", "LCycleTimetable$Numbers;", true)
  | 3 => ("CycleTimetable$Text", "characters", "LCycleTimetable$Numbers;", true)
  | _ => ("CycleTimetable$Text", "position", "I", false)
def tyX3 : Nat → FieldType := fun k => match k with
  | 0 => .int
  | 1 => .int
  | 2 => .object "CycleTimetable$Numbers"
  | 3 => .object "CycleTimetable$Numbers"
  | _ => .int
abbrev wsX30 : List Cond := u_ws RX3 TX3 5
theorem nmX3 : ∀ a, a < 5 → ∀ b, b < 5 → a ≠ b → (TX3 a).2.1 ≠ (TX3 b).2.1 := by decide +kernel
theorem tyX3_ok : ∀ k, k < 5 → parseFieldDescriptor (TX3 k).2.2.1 = some (tyX3 k) := by decide +kernel
abbrev cX3_init : ByteArray := prog_5_method_1_code
def yX3_init : MethodName := ⟨RX3, "<init>", "()V"⟩
abbrev cX3_append : ByteArray := prog_5_method_2_code
def yX3_append : MethodName := ⟨RX3, "append", "(C)V"⟩
abbrev cX3_parse : ByteArray := prog_5_method_3_code
def yX3_parse : MethodName := ⟨RX3, "parse", "()I"⟩
abbrev cX3_putPlacing : ByteArray := prog_5_method_4_code
def yX3_putPlacing : MethodName := ⟨RX3, "putPlacing", "(III)V"⟩
abbrev cX3_reads : ByteArray := prog_5_method_5_code
def yX3_reads : MethodName := ⟨RX3, "reads", "(C)Z"⟩
abbrev cX3_readDigit : ByteArray := prog_5_method_6_code
def yX3_readDigit : MethodName := ⟨RX3, "readDigit", "()I"⟩
abbrev cX3_readNumber : ByteArray := prog_5_method_7_code
def yX3_readNumber : MethodName := ⟨RX3, "readNumber", "()I"⟩
def RX4 : String := "CycleTimetable"
def TX4 : u_T := fun k => match k with
  | 0 => ("CycleTimetable", "state", "LCycleTimetable$State;", true)
  | 1 => ("CycleTimetable", "trial", "LCycleTimetable$State;", true)
  | 2 => ("CycleTimetable", "snapshot", "LCycleTimetable$State;", true)
  | 3 => ("CycleTimetable", "hasSnapshot", "Z", false)
  | 4 => ("CycleTimetable", "history", "[LCycleTimetable$State;", true)
  | 5 => ("CycleTimetable", "firstState", "I", false)
  | 6 => ("CycleTimetable", "states", "I", false)
  | _ => ("CycleTimetable", "text", "LCycleTimetable$Text;", true)
def tyX4 : Nat → FieldType := fun k => match k with
  | 0 => .object "CycleTimetable$State"
  | 1 => .object "CycleTimetable$State"
  | 2 => .object "CycleTimetable$State"
  | 3 => .boolean
  | 4 => .array (.object "CycleTimetable$State")
  | 5 => .int
  | 6 => .int
  | _ => .object "CycleTimetable$Text"
abbrev wsX40 : List Cond := u_ws RX4 TX4 8
theorem nmX4 : ∀ a, a < 8 → ∀ b, b < 8 → a ≠ b → (TX4 a).2.1 ≠ (TX4 b).2.1 := by decide +kernel
theorem tyX4_ok : ∀ k, k < 8 → parseFieldDescriptor (TX4 k).2.2.1 = some (tyX4 k) := by decide +kernel
abbrev cX4_init : ByteArray := prog_1_method_1_code
def yX4_init : MethodName := ⟨RX4, "<init>", "()V"⟩
abbrev cX4_setCycle : ByteArray := prog_1_method_2_code
def yX4_setCycle : MethodName := ⟨RX4, "setCycle", "(II)I"⟩
abbrev cX4_holiday : ByteArray := prog_1_method_3_code
def yX4_holiday : MethodName := ⟨RX4, "holiday", "(IZ)I"⟩
abbrev cX4_addGroup : ByteArray := prog_1_method_4_code
def yX4_addGroup : MethodName := ⟨RX4, "addGroup", "()I"⟩
abbrev cX4_addTeacher : ByteArray := prog_1_method_5_code
def yX4_addTeacher : MethodName := ⟨RX4, "addTeacher", "(II)I"⟩
abbrev cX4_addRoom : ByteArray := prog_1_method_6_code
def yX4_addRoom : MethodName := ⟨RX4, "addRoom", "(I)I"⟩
abbrev cX4_addCourse : ByteArray := prog_1_method_7_code
def yX4_addCourse : MethodName := ⟨RX4, "addCourse", "(IIIII)I"⟩
abbrev cX4_join : ByteArray := prog_1_method_8_code
def yX4_join : MethodName := ⟨RX4, "join", "(II)I"⟩
abbrev cX4_bar : ByteArray := prog_1_method_9_code
def yX4_bar : MethodName := ⟨RX4, "bar", "(IIZ)I"⟩
abbrev cX4_place : ByteArray := prog_1_method_10_code
def yX4_place : MethodName := ⟨RX4, "place", "(III)I"⟩
abbrev cX4_takeAway : ByteArray := prog_1_method_11_code
def yX4_takeAway : MethodName := ⟨RX4, "takeAway", "(II)I"⟩
abbrev cX4_move : ByteArray := prog_1_method_12_code
def yX4_move : MethodName := ⟨RX4, "move", "(IIII)I"⟩
abbrev cX4_swap : ByteArray := prog_1_method_13_code
def yX4_swap : MethodName := ⟨RX4, "swap", "(IIII)I"⟩
abbrev cX4_fill : ByteArray := prog_1_method_14_code
def yX4_fill : MethodName := ⟨RX4, "fill", "(I)I"⟩
abbrev cX4_type : ByteArray := prog_1_method_15_code
def yX4_type : MethodName := ⟨RX4, "type", "(C)I"⟩
abbrev cX4_clearText : ByteArray := prog_1_method_16_code
def yX4_clearText : MethodName := ⟨RX4, "clearText", "()I"⟩
abbrev cX4_readPlacings : ByteArray := prog_1_method_17_code
def yX4_readPlacings : MethodName := ⟨RX4, "readPlacings", "()I"⟩
abbrev cX4_undo : ByteArray := prog_1_method_18_code
def yX4_undo : MethodName := ⟨RX4, "undo", "()I"⟩
abbrev cX4_keep : ByteArray := prog_1_method_19_code
def yX4_keep : MethodName := ⟨RX4, "keep", "()I"⟩
abbrev cX4_restore : ByteArray := prog_1_method_20_code
def yX4_restore : MethodName := ⟨RX4, "restore", "()I"⟩
abbrev cX4_reason : ByteArray := prog_1_method_21_code
def yX4_reason : MethodName := ⟨RX4, "reason", "(III)I"⟩
abbrev cX4_course : ByteArray := prog_1_method_22_code
def yX4_course : MethodName := ⟨RX4, "course", "(II)I"⟩
abbrev cX4_lessonAt : ByteArray := prog_1_method_23_code
def yX4_lessonAt : MethodName := ⟨RX4, "lessonAt", "(II)I"⟩
abbrev cX4_groupAt : ByteArray := prog_1_method_24_code
def yX4_groupAt : MethodName := ⟨RX4, "groupAt", "(III)I"⟩
abbrev cX4_roomAt : ByteArray := prog_1_method_25_code
def yX4_roomAt : MethodName := ⟨RX4, "roomAt", "(II)I"⟩
abbrev cX4_teacherAt : ByteArray := prog_1_method_26_code
def yX4_teacherAt : MethodName := ⟨RX4, "teacherAt", "(II)I"⟩
abbrev cX4_teacher : ByteArray := prog_1_method_27_code
def yX4_teacher : MethodName := ⟨RX4, "teacher", "(II)I"⟩
abbrev cX4_group : ByteArray := prog_1_method_28_code
def yX4_group : MethodName := ⟨RX4, "group", "(III)I"⟩
abbrev cX4_room : ByteArray := prog_1_method_29_code
def yX4_room : MethodName := ⟨RX4, "room", "(II)I"⟩
abbrev cX4_dayOf : ByteArray := prog_1_method_30_code
def yX4_dayOf : MethodName := ⟨RX4, "dayOf", "(I)I"⟩
abbrev cX4_nextDate : ByteArray := prog_1_method_31_code
def yX4_nextDate : MethodName := ⟨RX4, "nextDate", "(II)I"⟩
abbrev cX4_count : ByteArray := prog_1_method_32_code
def yX4_count : MethodName := ⟨RX4, "count", "(I)I"⟩
abbrev cX4_isIn : ByteArray := prog_1_method_33_code
def yX4_isIn : MethodName := ⟨RX4, "isIn", "(III)Z"⟩
abbrev cX4_isDate : ByteArray := prog_1_method_34_code
def yX4_isDate : MethodName := ⟨RX4, "isDate", "(I)Z"⟩
abbrev cX4_knowsGroup : ByteArray := prog_1_method_35_code
def yX4_knowsGroup : MethodName := ⟨RX4, "knowsGroup", "(I)Z"⟩
abbrev cX4_knowsTeacher : ByteArray := prog_1_method_36_code
def yX4_knowsTeacher : MethodName := ⟨RX4, "knowsTeacher", "(I)Z"⟩
abbrev cX4_knowsCourse : ByteArray := prog_1_method_37_code
def yX4_knowsCourse : MethodName := ⟨RX4, "knowsCourse", "(I)Z"⟩
abbrev cX4_remember : ByteArray := prog_1_method_38_code
def yX4_remember : MethodName := ⟨RX4, "remember", "()V"⟩
abbrev cX4_adoptTrial : ByteArray := prog_1_method_39_code
def yX4_adoptTrial : MethodName := ⟨RX4, "adoptTrial", "()V"⟩
abbrev cX4_historyAt : ByteArray := prog_1_method_40_code
def yX4_historyAt : MethodName := ⟨RX4, "historyAt", "(I)LCycleTimetable$State;"⟩
def RX5 : String := "CycleTimetableModel"
def TX5 : u_T := fun k => match k with
  | 0 => ("CycleTimetableModel", "now", "[I", true)
  | 1 => ("CycleTimetableModel", "kept", "[I", true)
  | 2 => ("CycleTimetableModel", "states", "I", false)
  | 3 => ("CycleTimetableModel", "hasSnapshot", "Z", false)
  | 4 => ("CycleTimetableModel", "text", "[I", true)
  | 5 => ("CycleTimetableModel", "length", "I", false)
  | 6 => ("CycleTimetableModel", "at", "I", false)
  | 7 => ("CycleTimetableModel", "number", "I", false)
  | 8 => ("CycleTimetableModel", "first", "I", false)
  | 9 => ("CycleTimetableModel", "second", "I", false)
  | _ => ("CycleTimetableModel", "third", "I", false)
def tyX5 : Nat → FieldType := fun k => match k with
  | 0 => .array .int
  | 1 => .array .int
  | 2 => .int
  | 3 => .boolean
  | 4 => .array .int
  | 5 => .int
  | 6 => .int
  | 7 => .int
  | 8 => .int
  | 9 => .int
  | _ => .int
abbrev wsX50 : List Cond := u_ws RX5 TX5 11
theorem nmX5 : ∀ a, a < 11 → ∀ b, b < 11 → a ≠ b → (TX5 a).2.1 ≠ (TX5 b).2.1 := by decide +kernel
theorem tyX5_ok : ∀ k, k < 11 → parseFieldDescriptor (TX5 k).2.2.1 = some (tyX5 k) := by decide +kernel
abbrev cX5_init : ByteArray := prog_7_method_1_code
def yX5_init : MethodName := ⟨RX5, "<init>", "()V"⟩
abbrev cX5_isIn : ByteArray := prog_7_method_2_code
def yX5_isIn : MethodName := ⟨RX5, "isIn", "(III)Z"⟩
abbrev cX5_slots : ByteArray := prog_7_method_3_code
def yX5_slots : MethodName := ⟨RX5, "slots", "()I"⟩
abbrev cX5_isSlot : ByteArray := prog_7_method_4_code
def yX5_isSlot : MethodName := ⟨RX5, "isSlot", "(I)Z"⟩
abbrev cX5_isGroup : ByteArray := prog_7_method_5_code
def yX5_isGroup : MethodName := ⟨RX5, "isGroup", "(I)Z"⟩
abbrev cX5_isTeacher : ByteArray := prog_7_method_6_code
def yX5_isTeacher : MethodName := ⟨RX5, "isTeacher", "(I)Z"⟩
abbrev cX5_isRoom : ByteArray := prog_7_method_7_code
def yX5_isRoom : MethodName := ⟨RX5, "isRoom", "(I)Z"⟩
abbrev cX5_isCourse : ByteArray := prog_7_method_8_code
def yX5_isCourse : MethodName := ⟨RX5, "isCourse", "(I)Z"⟩
abbrev cX5_of : ByteArray := prog_7_method_9_code
def yX5_of : MethodName := ⟨RX5, "of", "(II)I"⟩
abbrev cX5_roomOf : ByteArray := prog_7_method_10_code
def yX5_roomOf : MethodName := ⟨RX5, "roomOf", "(II)I"⟩
abbrev cX5_has : ByteArray := prog_7_method_11_code
def yX5_has : MethodName := ⟨RX5, "has", "(II)Z"⟩
abbrev cX5_puts : ByteArray := prog_7_method_12_code
def yX5_puts : MethodName := ⟨RX5, "puts", "(III)V"⟩
abbrev cX5_isBarred : ByteArray := prog_7_method_13_code
def yX5_isBarred : MethodName := ⟨RX5, "isBarred", "(II)Z"⟩
abbrev cX5_keeps : ByteArray := prog_7_method_14_code
def yX5_keeps : MethodName := ⟨RX5, "keeps", "(I)V"⟩
abbrev cX5_brings : ByteArray := prog_7_method_15_code
def yX5_brings : MethodName := ⟨RX5, "brings", "(I)V"⟩
abbrev cX5_recordsTrial : ByteArray := prog_7_method_16_code
def yX5_recordsTrial : MethodName := ⟨RX5, "recordsTrial", "()V"⟩
abbrev cX5_records : ByteArray := prog_7_method_17_code
def yX5_records : MethodName := ⟨RX5, "records", "()V"⟩
abbrev cX5_undo : ByteArray := prog_7_method_18_code
def yX5_undo : MethodName := ⟨RX5, "undo", "()I"⟩
abbrev cX5_placedInAll : ByteArray := prog_7_method_19_code
def yX5_placedInAll : MethodName := ⟨RX5, "placedInAll", "()I"⟩
abbrev cX5_keep : ByteArray := prog_7_method_20_code
def yX5_keep : MethodName := ⟨RX5, "keep", "()I"⟩
abbrev cX5_restore : ByteArray := prog_7_method_21_code
def yX5_restore : MethodName := ⟨RX5, "restore", "()I"⟩
abbrev cX5_setCycle : ByteArray := prog_7_method_22_code
def yX5_setCycle : MethodName := ⟨RX5, "setCycle", "(II)I"⟩
abbrev cX5_holidays : ByteArray := prog_7_method_23_code
def yX5_holidays : MethodName := ⟨RX5, "holidays", "(I)I"⟩
abbrev cX5_holiday : ByteArray := prog_7_method_24_code
def yX5_holiday : MethodName := ⟨RX5, "holiday", "(IZ)I"⟩
abbrev cX5_dayBy : ByteArray := prog_7_method_25_code
def yX5_dayBy : MethodName := ⟨RX5, "dayBy", "(I)I"⟩
abbrev cX5_dayOf : ByteArray := prog_7_method_26_code
def yX5_dayOf : MethodName := ⟨RX5, "dayOf", "(I)I"⟩
abbrev cX5_nextDate : ByteArray := prog_7_method_27_code
def yX5_nextDate : MethodName := ⟨RX5, "nextDate", "(II)I"⟩
abbrev cX5_addGroup : ByteArray := prog_7_method_28_code
def yX5_addGroup : MethodName := ⟨RX5, "addGroup", "()I"⟩
abbrev cX5_addTeacher : ByteArray := prog_7_method_29_code
def yX5_addTeacher : MethodName := ⟨RX5, "addTeacher", "(II)I"⟩
abbrev cX5_addRoom : ByteArray := prog_7_method_30_code
def yX5_addRoom : MethodName := ⟨RX5, "addRoom", "(I)I"⟩
abbrev cX5_addCourse : ByteArray := prog_7_method_31_code
def yX5_addCourse : MethodName := ⟨RX5, "addCourse", "(IIIII)I"⟩
abbrev cX5_join : ByteArray := prog_7_method_32_code
def yX5_join : MethodName := ⟨RX5, "join", "(II)I"⟩
abbrev cX5_barred : ByteArray := prog_7_method_33_code
def yX5_barred : MethodName := ⟨RX5, "barred", "(I)I"⟩
abbrev cX5_bar : ByteArray := prog_7_method_34_code
def yX5_bar : MethodName := ⟨RX5, "bar", "(IIZ)I"⟩
abbrev cX5_placed : ByteArray := prog_7_method_35_code
def yX5_placed : MethodName := ⟨RX5, "placed", "(I)I"⟩
abbrev cX5_courseOf : ByteArray := prog_7_method_36_code
def yX5_courseOf : MethodName := ⟨RX5, "courseOf", "(II)I"⟩
abbrev cX5_courseIn : ByteArray := prog_7_method_37_code
def yX5_courseIn : MethodName := ⟨RX5, "courseIn", "(II)I"⟩
abbrev cX5_onDay : ByteArray := prog_7_method_38_code
def yX5_onDay : MethodName := ⟨RX5, "onDay", "(IIZ)I"⟩
abbrev cX5_lessonsOf : ByteArray := prog_7_method_39_code
def yX5_lessonsOf : MethodName := ⟨RX5, "lessonsOf", "(I)I"⟩
abbrev cX5_isFor : ByteArray := prog_7_method_40_code
def yX5_isFor : MethodName := ⟨RX5, "isFor", "(II)Z"⟩
abbrev cX5_isBusy : ByteArray := prog_7_method_41_code
def yX5_isBusy : MethodName := ⟨RX5, "isBusy", "(II)Z"⟩
abbrev cX5_reasonOf : ByteArray := prog_7_method_42_code
def yX5_reasonOf : MethodName := ⟨RX5, "reasonOf", "(III)I"⟩
abbrev cX5_reason : ByteArray := prog_7_method_43_code
def yX5_reason : MethodName := ⟨RX5, "reason", "(III)I"⟩
abbrev cX5_placeError : ByteArray := prog_7_method_44_code
def yX5_placeError : MethodName := ⟨RX5, "placeError", "(III)I"⟩
abbrev cX5_place : ByteArray := prog_7_method_45_code
def yX5_place : MethodName := ⟨RX5, "place", "(III)I"⟩
abbrev cX5_isLesson : ByteArray := prog_7_method_46_code
def yX5_isLesson : MethodName := ⟨RX5, "isLesson", "(II)Z"⟩
abbrev cX5_takeAway : ByteArray := prog_7_method_47_code
def yX5_takeAway : MethodName := ⟨RX5, "takeAway", "(II)I"⟩
abbrev cX5_move : ByteArray := prog_7_method_48_code
def yX5_move : MethodName := ⟨RX5, "move", "(IIII)I"⟩
abbrev cX5_lessonsIn : ByteArray := prog_7_method_49_code
def yX5_lessonsIn : MethodName := ⟨RX5, "lessonsIn", "(I)I"⟩
abbrev cX5_swap : ByteArray := prog_7_method_50_code
def yX5_swap : MethodName := ⟨RX5, "swap", "(IIII)I"⟩
abbrev cX5_fills : ByteArray := prog_7_method_51_code
def yX5_fills : MethodName := ⟨RX5, "fills", "(I)Z"⟩
abbrev cX5_fill : ByteArray := prog_7_method_52_code
def yX5_fill : MethodName := ⟨RX5, "fill", "(I)I"⟩
abbrev cX5_type : ByteArray := prog_7_method_53_code
def yX5_type : MethodName := ⟨RX5, "type", "(C)I"⟩
abbrev cX5_clearText : ByteArray := prog_7_method_54_code
def yX5_clearText : MethodName := ⟨RX5, "clearText", "()I"⟩
abbrev cX5_isHere : ByteArray := prog_7_method_55_code
def yX5_isHere : MethodName := ⟨RX5, "isHere", "(II)Z"⟩
abbrev cX5_passesSign : ByteArray := prog_7_method_56_code
def yX5_passesSign : MethodName := ⟨RX5, "passesSign", "(I)Z"⟩
abbrev cX5_passesNumber : ByteArray := prog_7_method_57_code
def yX5_passesNumber : MethodName := ⟨RX5, "passesNumber", "(I)Z"⟩
abbrev cX5_passesPlacing : ByteArray := prog_7_method_58_code
def yX5_passesPlacing : MethodName := ⟨RX5, "passesPlacing", "()Z"⟩
abbrev cX5_faultOf : ByteArray := prog_7_method_59_code
def yX5_faultOf : MethodName := ⟨RX5, "faultOf", "()I"⟩
abbrev cX5_readPlacings : ByteArray := prog_7_method_60_code
def yX5_readPlacings : MethodName := ⟨RX5, "readPlacings", "()I"⟩
abbrev cX5_placesFor : ByteArray := prog_7_method_61_code
def yX5_placesFor : MethodName := ⟨RX5, "placesFor", "(I)I"⟩
abbrev cX5_course : ByteArray := prog_7_method_62_code
def yX5_course : MethodName := ⟨RX5, "course", "(II)I"⟩
abbrev cX5_lessonAt : ByteArray := prog_7_method_63_code
def yX5_lessonAt : MethodName := ⟨RX5, "lessonAt", "(II)I"⟩
abbrev cX5_takesPart : ByteArray := prog_7_method_64_code
def yX5_takesPart : MethodName := ⟨RX5, "takesPart", "(III)Z"⟩
abbrev cX5_courseFor : ByteArray := prog_7_method_65_code
def yX5_courseFor : MethodName := ⟨RX5, "courseFor", "(III)I"⟩
abbrev cX5_groupAt : ByteArray := prog_7_method_66_code
def yX5_groupAt : MethodName := ⟨RX5, "groupAt", "(III)I"⟩
abbrev cX5_roomAt : ByteArray := prog_7_method_67_code
def yX5_roomAt : MethodName := ⟨RX5, "roomAt", "(II)I"⟩
abbrev cX5_teacherAt : ByteArray := prog_7_method_68_code
def yX5_teacherAt : MethodName := ⟨RX5, "teacherAt", "(II)I"⟩
abbrev cX5_windows : ByteArray := prog_7_method_69_code
def yX5_windows : MethodName := ⟨RX5, "windows", "(II)I"⟩
abbrev cX5_mostOnDay : ByteArray := prog_7_method_70_code
def yX5_mostOnDay : MethodName := ⟨RX5, "mostOnDay", "(I)I"⟩
abbrev cX5_coursesOf : ByteArray := prog_7_method_71_code
def yX5_coursesOf : MethodName := ⟨RX5, "coursesOf", "(IZ)I"⟩
abbrev cX5_teacher : ByteArray := prog_7_method_72_code
def yX5_teacher : MethodName := ⟨RX5, "teacher", "(II)I"⟩
abbrev cX5_lessonsFor : ByteArray := prog_7_method_73_code
def yX5_lessonsFor : MethodName := ⟨RX5, "lessonsFor", "(IIZ)I"⟩
abbrev cX5_group : ByteArray := prog_7_method_74_code
def yX5_group : MethodName := ⟨RX5, "group", "(III)I"⟩
abbrev cX5_taken : ByteArray := prog_7_method_75_code
def yX5_taken : MethodName := ⟨RX5, "taken", "(I)I"⟩
abbrev cX5_room : ByteArray := prog_7_method_76_code
def yX5_room : MethodName := ⟨RX5, "room", "(II)I"⟩
abbrev cX5_lessonsInAll : ByteArray := prog_7_method_77_code
def yX5_lessonsInAll : MethodName := ⟨RX5, "lessonsInAll", "()I"⟩
abbrev cX5_count : ByteArray := prog_7_method_78_code
def yX5_count : MethodName := ⟨RX5, "count", "(I)I"⟩
def RJ13 : String := "java/lang/Long"
def TJ13 : u_T := fun k => match k with
  | _ => ("", "", "", false)
def tyJ13 : Nat → FieldType := fun k => match k with
  | _ => .int
abbrev wsJ130 : List Cond := u_ws RJ13 TJ13 0
theorem nmJ13 : ∀ a, a < 0 → ∀ b, b < 0 → a ≠ b → (TJ13 a).2.1 ≠ (TJ13 b).2.1 := by decide +kernel
theorem tyJ13_ok : ∀ k, k < 0 → parseFieldDescriptor (TJ13 k).2.2.1 = some (tyJ13 k) := by decide +kernel
abbrev cJ13_bitCount_95d88 : ByteArray := prog_8_method_50_code
def yJ13_bitCount_95d88 : MethodName := ⟨RJ13, "bitCount", "(J)I"⟩
def RJ9 : String := "java/lang/Math"
def TJ9 : u_T := fun k => match k with
  | _ => ("", "", "", false)
def tyJ9 : Nat → FieldType := fun k => match k with
  | _ => .int
abbrev wsJ90 : List Cond := u_ws RJ9 TJ9 0
theorem nmJ9 : ∀ a, a < 0 → ∀ b, b < 0 → a ≠ b → (TJ9 a).2.1 ≠ (TJ9 b).2.1 := by decide +kernel
theorem tyJ9_ok : ∀ k, k < 0 → parseFieldDescriptor (TJ9 k).2.2.1 = some (tyJ9 k) := by decide +kernel
abbrev cJ9_max_7cf53 : ByteArray := prog_9_method_65_code
def yJ9_max_7cf53 : MethodName := ⟨RJ9, "max", "(II)I"⟩
abbrev cJ9_min_7cf53 : ByteArray := prog_9_method_69_code
def yJ9_min_7cf53 : MethodName := ⟨RJ9, "min", "(II)I"⟩
def RJ10 : String := "java/lang/System"
def TJ10 : u_T := fun k => match k with
  | _ => ("", "", "", false)
def tyJ10 : Nat → FieldType := fun k => match k with
  | _ => .int
abbrev wsJ100 : List Cond := u_ws RJ10 TJ10 0
theorem nmJ10 : ∀ a, a < 0 → ∀ b, b < 0 → a ≠ b → (TJ10 a).2.1 ≠ (TJ10 b).2.1 := by decide +kernel
theorem tyJ10_ok : ∀ k, k < 0 → parseFieldDescriptor (TJ10 k).2.2.1 = some (tyJ10 k) := by decide +kernel
def RL : String := "CycleTimetableLaw"
abbrev cL_law : ByteArray := code
def yL_law : MethodName := ⟨RL, "law", "([I)Z"⟩
abbrev vwCl : List vw_C := [(RX0, TX0, 2), (RX1, TX1, 1), (RX2, TX2, 16), (RX3, TX3, 5), (RX4, TX4, 8), (RX5, TX5, 11)]

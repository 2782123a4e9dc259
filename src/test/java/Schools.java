/** Schools with which tests begin. */
final class Schools {
    /** 60 signs; the placing is whole, and the rest is a fault. */
    static final String SIXTY = "19@47r5;" + "x".repeat(52);

    private Schools() {
    }

    /**
     * 3 days of 3 periods; groups 0 to 2; teachers 0 (4 a cycle, 2 a day), 1 and
     * 2 (9, 3); rooms 0 (equipment 1), 1 (15) and 2 (0); courses
     * 0 (group 0, teacher 0, 3 lessons),
     * 1 (half 1 of group 1, teacher 1, needs 1, 4 lessons),
     * 2 (half 2 of group 1, teacher 2, 2 lessons),
     * 3 (groups 2 and 0, teacher 1, needs 2, 5 lessons) and
     * 4 (group 1, teacher 2, 1 lesson).
     * Course 0 has a lesson in slot 0 and room 0, 1 in 0 and 1, 2 in 4 and 2.
     * Teacher 0 is barred from slot 8; date 2 is a holiday.
     * The history is full; the snapshot has the first lesson alone; the text is
     * a placing that can be placed.
     */
    static CycleTimetable busy() {
        CycleTimetable x = new CycleTimetable();
        x.setCycle(3, 3);
        for (int i = 0; i < 3; i++) {
            x.addGroup();
        }
        x.addTeacher(4, 2);
        x.addTeacher(9, 3);
        x.addTeacher(9, 3);
        x.addRoom(1);
        x.addRoom(15);
        x.addRoom(0);
        x.addCourse(0, 0, 0, 0, 3);
        x.addCourse(1, 1, 1, 1, 4);
        x.addCourse(1, 2, 2, 0, 2);
        x.addCourse(2, 0, 1, 2, 5);
        x.addCourse(1, 0, 2, 0, 1);
        x.join(3, 0);
        x.place(0, 0, 0);
        x.keep();
        x.place(1, 0, 1);
        x.bar(0, 8, true);
        x.holiday(2, true);
        x.place(2, 4, 2);
        Check.write(x, "1@4r0");
        return x;
    }

    /**
     * 8 days of 6 periods, and the most of everything: course c is for group
     * c % 8, its part is c % 3, its teacher is c % 8, and it has 10 lessons;
     * teachers have 40 a cycle and 6 a day, rooms 15. The text is full.
     */
    static CycleTimetable full() {
        CycleTimetable x = new CycleTimetable();
        x.setCycle(8, 6);
        for (int i = 0; i < 8; i++) {
            x.addGroup();
            x.addTeacher(40, 6);
        }
        for (int i = 0; i < 6; i++) {
            x.addRoom(15);
        }
        for (int i = 0; i < 20; i++) {
            x.addCourse(i % 8, i % 3, i % 8, 15, 10);
            if (i == 9) {
                x.keep();
            }
        }
        Check.write(x, SIXTY);
        return x;
    }

    /** A cycle of so many days and periods; one group, one teacher (40, 6), one room and one course of 10 lessons. */
    static CycleTimetable single(int days, int periods) {
        CycleTimetable x = new CycleTimetable();
        x.setCycle(days, periods);
        x.addGroup();
        x.addTeacher(40, 6);
        x.addRoom(0);
        x.addCourse(0, 0, 0, 0, 10);
        return x;
    }

    /**
     * 3 days of 3 periods, in which this reason alone stands against a lesson
     * of course 0 in slot 4 and room 0, or none for 0. Groups 0 to 2, teachers
     * 0 to 2, rooms 0 to 2; courses 0 (group 0, teacher 0, needs 1), 1 (group 1,
     * teacher 0), 2 (group 0, teacher 1), 3 (group 1, teacher 1) and 4 (group 2,
     * teacher 2). The text is that lesson.
     */
    static CycleTimetable against(int reason) {
        CycleTimetable x = people(reason == 1 ? 1 : 5, reason == 5 ? 1 : 3, reason == 6 ? 1 : 9, reason == 9 ? 14 : 1);
        if (reason == 1) {
            x.place(0, 0, 1);
        }
        addReason(x, reason);
        return x;
    }

    /** As against, and course 0 has a lesson in slot 8 and this room; no reason of 1 or 6 without it. */
    static CycleTimetable againstMove(int reason, int room) {
        CycleTimetable x = people(reason == 1 ? 1 : 5, reason == 5 ? 1 : 3, reason == 6 ? 2 : 9, reason == 9 ? 14 : 1);
        x.place(0, 8, room);
        addReason(x, reason);
        return x;
    }

    /** As againstMove, in room 0, and course 4 has a lesson in slot 4 and room 2. */
    static CycleTimetable againstSwap(int reason) {
        CycleTimetable x = againstMove(reason, 0);
        x.place(4, 4, 2);
        return x;
    }

    /** As against, and the teacher of course 0 is barred from all slots but 4; rooms 1 and 2 are taken there. */
    static CycleTimetable onlySlot4(int reason) {
        CycleTimetable x = against(reason);
        for (int slot = 0; slot < 9; slot++) {
            if (slot != 4) {
                x.bar(0, slot, true);
            }
        }
        if (reason == 8) {
            x.addTeacher(9, 3);
            x.addTeacher(9, 3);
            x.addGroup();
            x.addGroup();
            x.addCourse(3, 0, 3, 0, 5);
            x.addCourse(4, 0, 4, 0, 5);
            x.place(5, 4, 1);
            x.place(6, 4, 2);
        }
        return x;
    }

    /** As against, and both reasons stand; 3 and 4 never do. */
    static CycleTimetable againstBoth(int first, int second) {
        boolean[] has = new boolean[10];
        has[first] = true;
        has[second] = true;
        int lessons = has[1] ? has[2] ? 2 : 1 : 5;
        int day = has[5] ? has[2] ? 2 : 1 : 3;
        int cycle = has[6] ? has[2] ? 2 : 1 : 9;
        CycleTimetable x = people(lessons, day, cycle, has[9] ? 14 : 1);
        if (has[2]) {
            x.place(0, 3, 1);
            x.place(0, 5, 1);
        } else if (has[1]) {
            x.place(0, 0, 1);
        }
        if (has[4]) {
            x.place(1, 4, has[8] ? 0 : 1);
        } else if (has[5] && !has[2]) {
            x.place(1, 3, 0);
        } else if (has[6] && !has[1] && !has[2]) {
            x.place(1, 0, 0);
        }
        if (has[7]) {
            x.place(2, 4, has[8] ? 0 : 2);
        } else if (has[8] && !has[4]) {
            x.place(3, 4, 0);
        }
        if (has[3]) {
            x.bar(0, 4, true);
        }
        return x;
    }

    private static CycleTimetable people(int lessons, int day, int cycle, int equipment) {
        CycleTimetable x = new CycleTimetable();
        x.setCycle(3, 3);
        x.addTeacher(cycle, day);
        x.addRoom(equipment);
        for (int i = 0; i < 3; i++) {
            x.addGroup();
            if (i > 0) {
                x.addTeacher(9, 3);
                x.addRoom(15);
            }
        }
        x.addCourse(0, 0, 0, 1, lessons);
        x.addCourse(1, 0, 0, 0, 5);
        x.addCourse(0, 0, 1, 0, 5);
        x.addCourse(1, 0, 1, 0, 5);
        x.keep();
        x.addCourse(2, 0, 2, 0, 5);
        Check.write(x, "0@4r0");
        return x;
    }

    private static void addReason(CycleTimetable x, int reason) {
        switch (reason) {
            case 2:
                x.place(0, 3, 0);
                x.place(0, 5, 0);
                break;
            case 3:
                x.bar(0, 4, true);
                break;
            case 4:
                x.place(1, 4, 1);
                break;
            case 5:
                x.place(1, 3, 0);
                break;
            case 6:
                x.place(1, 0, 0);
                break;
            case 7:
                x.place(2, 4, 1);
                break;
            case 8:
                x.place(3, 4, 0);
                break;
            default:
                break;
        }
    }
}

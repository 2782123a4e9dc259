/** Promises 22 to 29 and 32: what is told. */
public final class AnswersTest {
    private static final int[] FAR = {Integer.MIN_VALUE, -1, 100, Integer.MAX_VALUE};

    public static void main(String[] args) {
        promise22();
        freePlaces();
        promise23();
        promise24();
        promises25And26();
        promise27();
        promise28();
        promise29();
        promise32();
        Check.end();
    }

    /**
     * 3 days of 5 periods; groups 0 to 2; teachers 0 (12, 4) and 1 (10, 3);
     * rooms 0 (2) and 1 (15); courses 0 (group 0 with 2), 1 (half 1 of group 0),
     * 2 (half 2 of group 0, needs 4) and 3 (group 1).
     */
    private static CycleTimetable school() {
        CycleTimetable x = new CycleTimetable();
        x.setCycle(3, 5);
        x.addGroup();
        x.addGroup();
        x.addGroup();
        x.addTeacher(12, 4);
        x.addTeacher(10, 3);
        x.addRoom(2);
        x.addRoom(15);
        x.addCourse(0, 0, 0, 0, 6);
        x.join(0, 2);
        x.addCourse(0, 1, 0, 2, 5);
        x.addCourse(0, 2, 1, 4, 4);
        x.addCourse(1, 0, 1, 0, 3);
        return x;
    }

    private static void promise22() {
        CycleTimetable x = school();
        int[][] due = {{0, 2, 0, 0, 0, 6, 0}, {0, -5, 1, 0, 2, 5, 0}, {0, -5, 2, 1, 4, 4, 0}, {1, -5, 0, 1, 0, 3, 0}};
        for (int course = 0; course < due.length; course++) {
            for (int what = 0; what < due[course].length; what++) {
                Check.due("22: course(" + course + ", " + what + ")", x.course(course, what), due[course][what]);
            }
            Check.due("22: what -1", x.course(course, -1), -2);
            Check.due("22: what 8", x.course(course, 8), -2);
        }
        for (int far : FAR) {
            Check.due("22: no course", x.course(far, 0), -1);
            Check.due("22: unknown before bad", x.course(far, far), -1);
            Check.due("22: bad", x.course(0, far), -2);
        }
        Check.due("22: course 4", x.course(4, 0), -1);
        x.place(0, 3, 1);
        Check.due("22: placed", x.course(0, 6), 1);
        Check.due("22: lessons a cycle", x.course(0, 5), 6);
    }

    private static void freePlaces() {
        CycleTimetable x = school();
        Check.due("22: all places", x.course(0, 7), 30);
        Check.due("22: one room", x.course(2, 7), 15);
        x.place(0, 3, 1);
        Check.due("22: without its slot", x.course(0, 7), 28);
        Check.due("22: group is busy", x.course(2, 7), 14);
        Check.due("22: a room is taken", x.course(3, 7), 29);
        x.place(0, 4, 1);
        Check.due("22: without the day", x.course(0, 7), 20);
        x.bar(0, 5, true);
        Check.due("22: barred", x.course(0, 7), 18);
        x.fill(0);
        Check.due("22: none", x.course(0, 7), 0);
    }

    private static void promise23() {
        CycleTimetable x = school();
        Check.due("23: no course", x.lessonAt(4, 0), -1);
        Check.due("23: course -1", x.lessonAt(-1, -1), -1);
        Check.due("23: place -1", x.lessonAt(0, -1), -2);
        Check.due("23: place MIN", x.lessonAt(0, Integer.MIN_VALUE), -2);
        Check.due("23: none", x.lessonAt(0, 0), -5);
        x.place(0, 14, 1);
        x.place(0, 0, 0);
        x.place(0, 6, 1);
        Check.due("23: first", x.lessonAt(0, 0), 0);
        Check.due("23: second", x.lessonAt(0, 1), 61);
        Check.due("23: third", x.lessonAt(0, 2), 141);
        Check.due("23: fourth", x.lessonAt(0, 3), -5);
        Check.due("23: MAX", x.lessonAt(0, Integer.MAX_VALUE), -5);
    }

    private static void promise24() {
        CycleTimetable x = school();
        for (int far : FAR) {
            Check.due("24: group", x.groupAt(far, 0, 0), -1);
            Check.due("24: slot", x.groupAt(0, 0, far), -1);
            Check.due("24: part", x.groupAt(0, far, 0), -2);
            Check.due("24: unknown before bad", x.groupAt(far, far, 0), -1);
        }
        Check.due("24: group 3", x.groupAt(3, 0, 0), -1);
        Check.due("24: slot 15", x.groupAt(0, 0, 15), -1);
        Check.due("24: part 3", x.groupAt(0, 3, 0), -2);
        x.place(2, 2, 1);
        Check.due("24: whole, of a half", x.groupAt(0, 0, 2), 2);
        Check.due("24: the other half", x.groupAt(0, 1, 2), -5);
        Check.due("24: this half", x.groupAt(0, 2, 2), 2);
        x.place(1, 2, 0);
        Check.due("24: the lowest", x.groupAt(0, 0, 2), 1);
        Check.due("24: half 1", x.groupAt(0, 1, 2), 1);
        Check.due("24: half 2", x.groupAt(0, 2, 2), 2);
        Check.due("24: another group", x.groupAt(1, 0, 2), -5);
        x.place(0, 7, 0);
        for (int part = 0; part <= 2; part++) {
            Check.due("24: its group", x.groupAt(0, part, 7), 0);
            Check.due("24: the joined group", x.groupAt(2, part, 7), 0);
            Check.due("24: neither", x.groupAt(1, part, 7), -5);
        }
    }

    private static void promises25And26() {
        CycleTimetable x = school();
        for (int far : FAR) {
            Check.due("25: room", x.roomAt(far, 0), -1);
            Check.due("25: slot", x.roomAt(0, far), -1);
            Check.due("26: teacher", x.teacherAt(far, 0), -1);
            Check.due("26: slot", x.teacherAt(0, far), -1);
        }
        Check.due("25: room 2", x.roomAt(2, 0), -1);
        Check.due("25: slot 15", x.roomAt(0, 15), -1);
        Check.due("26: teacher 2", x.teacherAt(2, 0), -1);
        Check.due("26: slot 15", x.teacherAt(0, 15), -1);
        Check.due("25: none", x.roomAt(0, 14), -5);
        Check.due("26: none", x.teacherAt(0, 14), -5);
        x.place(3, 14, 1);
        x.place(0, 14, 0);
        Check.due("25: room 0", x.roomAt(0, 14), 0);
        Check.due("25: room 1", x.roomAt(1, 14), 3);
        Check.due("26: teacher 0", x.teacherAt(0, 14), 0);
        Check.due("26: teacher 1", x.teacherAt(1, 14), 3);
        Check.due("25: another slot", x.roomAt(1, 13), -5);
        Check.due("26: another slot", x.teacherAt(1, 13), -5);
    }

    private static void promise27() {
        CycleTimetable x = school();
        for (int far : FAR) {
            Check.due("27: teacher", x.teacher(far, 0), -1);
            Check.due("27: unknown before bad", x.teacher(far, far), -1);
            Check.due("27: what", x.teacher(0, far), -2);
        }
        Check.due("27: teacher 2", x.teacher(2, 0), -1);
        Check.due("27: what 8", x.teacher(0, 8), -2);
        due27(x, 0, new int[] {12, 4, 0, 2, 0, 0, 0, 11});
        due27(x, 1, new int[] {10, 3, 0, 2, 0, 0, 0, 7});
        x.bar(0, 1, true);
        x.bar(0, 13, true);
        x.place(0, 0, 0);
        x.place(1, 4, 0);
        due27(x, 0, new int[] {12, 4, 2, 2, 2, 2, 3, 11});
        x.place(0, 2, 0);
        due27(x, 0, new int[] {12, 4, 3, 2, 2, 3, 2, 11});
        // No window goes from one day to the next.
        x.place(0, 6, 0);
        x.place(1, 9, 0);
        due27(x, 0, new int[] {12, 4, 5, 2, 2, 3, 4, 11});
        x.takeAway(0, 0);
        x.takeAway(0, 2);
        due27(x, 0, new int[] {12, 4, 3, 2, 2, 2, 2, 11});
        x.place(0, 7, 0);
        due27(x, 0, new int[] {12, 4, 4, 2, 2, 3, 1, 11});
        due27(x, 1, new int[] {10, 3, 0, 2, 0, 0, 0, 7});
        x.addCourse(2, 1, 1, 0, 9);
        due27(x, 0, new int[] {12, 4, 4, 2, 2, 3, 1, 11});
        due27(x, 1, new int[] {10, 3, 0, 3, 0, 0, 0, 16});
        // The first period of a day lies behind none of the day before.
        x.place(4, 3, 1);
        x.place(4, 5, 1);
        due27(x, 1, new int[] {10, 3, 2, 3, 0, 1, 0, 16});
    }

    private static void due27(CycleTimetable x, int teacher, int[] due) {
        for (int what = 0; what < due.length; what++) {
            Check.due("27: teacher(" + teacher + ", " + what + ")", x.teacher(teacher, what), due[what]);
        }
    }

    private static void promise28() {
        CycleTimetable x = school();
        for (int far : FAR) {
            Check.due("28: group", x.group(far, 1, 0), -1);
            Check.due("28: unknown before bad", x.group(far, far, far), -1);
            Check.due("28: half", x.group(0, far, 0), -2);
            Check.due("28: what", x.group(0, 1, far), -2);
        }
        Check.due("28: group 3", x.group(3, 1, 0), -1);
        Check.due("28: half 0", x.group(0, 0, 0), -2);
        Check.due("28: half 3", x.group(0, 3, 0), -2);
        Check.due("28: what 3", x.group(0, 1, 3), -2);
        due28(x, 0, 1, 0, 0, 11);
        due28(x, 0, 2, 0, 0, 10);
        due28(x, 1, 1, 0, 0, 3);
        due28(x, 2, 2, 0, 0, 6);
        x.place(0, 0, 0);
        x.place(1, 3, 0);
        x.place(2, 4, 1);
        due28(x, 0, 1, 2, 2, 9);
        due28(x, 0, 2, 2, 3, 8);
        due28(x, 1, 1, 0, 0, 3);
        due28(x, 2, 1, 1, 0, 5);
        x.place(0, 2, 0);
        due28(x, 0, 1, 3, 1, 8);
        due28(x, 0, 2, 3, 2, 7);
        due28(x, 2, 1, 2, 1, 4);
        due28(x, 2, 2, 2, 1, 4);
        lastGroup();
    }

    private static void lastGroup() {
        CycleTimetable x = new CycleTimetable();
        for (int i = 0; i < 8; i++) {
            x.addGroup();
        }
        x.addTeacher(9, 6);
        x.addRoom(0);
        x.addCourse(7, 2, 0, 0, 3);
        x.addCourse(7, 1, 0, 0, 2);
        x.place(0, 0, 0);
        x.place(0, 3, 0);
        x.place(1, 4, 0);
        due28(x, 7, 1, 1, 0, 1);
        due28(x, 7, 2, 2, 2, 1);
        due28(x, 6, 1, 0, 0, 0);
        due28(x, 6, 2, 0, 0, 0);
        Check.due("28: busy", x.reason(1, 4, 0), 4);
    }

    private static void due28(CycleTimetable x, int group, int half, int lessons, int windows, int missing) {
        String call = "28: group(" + group + ", " + half + ", ";
        Check.due(call + "0)", x.group(group, half, 0), lessons);
        Check.due(call + "1)", x.group(group, half, 1), windows);
        Check.due(call + "2)", x.group(group, half, 2), missing);
    }

    private static void promise29() {
        CycleTimetable x = school();
        for (int far : FAR) {
            Check.due("29: room", x.room(far, 0), -1);
            Check.due("29: unknown before bad", x.room(far, far), -1);
            Check.due("29: what", x.room(0, far), -2);
        }
        Check.due("29: room 2", x.room(2, 0), -1);
        Check.due("29: what 2", x.room(0, 2), -2);
        Check.due("29: equipment", x.room(0, 0), 2);
        Check.due("29: equipment", x.room(1, 0), 15);
        x.place(0, 0, 0);
        x.place(3, 1, 0);
        x.place(3, 8, 1);
        Check.due("29: taken", x.room(0, 1), 2);
        Check.due("29: taken", x.room(1, 1), 1);
    }

    private static void promise32() {
        CycleTimetable x = school();
        for (int far : FAR) {
            Check.due("32: count(" + far + ")", x.count(far), -2);
        }
        Check.due("32: count(11)", x.count(11), -2);
        x.addTeacher(1, 1);
        x.place(0, 0, 0);
        x.place(3, 0, 1);
        x.place(3, 8, 1);
        x.holiday(100, true);
        x.holiday(399, true);
        x.undo();
        Check.write(x, "1@2r");
        int[] due = {3, 5, 3, 3, 2, 4, 3, 15, 1, 3, 4};
        for (int what = 0; what < due.length; what++) {
            Check.due("32: count(" + what + ")", x.count(what), due[what]);
        }
    }
}

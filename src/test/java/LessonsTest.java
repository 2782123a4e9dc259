/** Promises 10 to 14 and 21: lessons and the reasons against them. */
public final class LessonsTest {
    public static void main(String[] args) {
        promise10();
        promise11();
        promise12();
        promise13();
        swapOneCourse();
        swapInItsOrder();
        promise14();
        promise21();
        reasonsInTheirOrder();
        busyGroups();
        Check.end();
    }

    /**
     * 4 days of 3 periods; groups 0 and 1; teachers 0 (20, 3) and 1 (20, 3);
     * rooms 0 (1), 1 (0) and 2 (3); courses 0 (group 0, teacher 0), 1 (group 1,
     * teacher 1) and 2 (half 1 of group 0, teacher 1, needs 1), 4 lessons each.
     */
    private static CycleTimetable school() {
        CycleTimetable x = new CycleTimetable();
        x.setCycle(4, 3);
        x.addGroup();
        x.addGroup();
        x.addTeacher(20, 3);
        x.addTeacher(20, 3);
        x.addRoom(1);
        x.addRoom(0);
        x.addRoom(3);
        x.addCourse(0, 0, 0, 0, 4);
        x.addCourse(1, 0, 1, 0, 4);
        x.addCourse(0, 1, 1, 1, 4);
        return x;
    }

    private static void promise10() {
        CycleTimetable x = school();
        int[][] unknown = {{-1, 0, 0}, {3, 0, 0}, {0, -1, 0}, {0, 12, 0}, {0, 0, -1}, {0, 0, 3},
            {Integer.MAX_VALUE, 0, 0}, {0, Integer.MIN_VALUE, 0}, {0, 0, Integer.MAX_VALUE}};
        for (int[] u : unknown) {
            Check.due("10: unknown", x.place(u[0], u[1], u[2]), -1);
            Check.due("21: unknown", x.reason(u[0], u[1], u[2]), -1);
        }
        Check.due("10: place", x.place(0, 0, 0), 1);
        Check.due("10: an act", x.undo(), 3);
        Check.due("10: undone", x.place(0, 0, 0), 1);
        Check.due("10: room taken", x.place(1, 0, 0), -4);
        Check.due("10: another room", x.place(1, 0, 1), 1);
        Check.due("10: second", x.place(0, 11, 2), 2);
        Check.due("10: lessonAt", x.lessonAt(0, 0), 0);
        Check.due("10: lessonAt", x.lessonAt(0, 1), 112);
        Check.due("10: same slot", x.place(0, 11, 1), -4);
        Check.due("10: no change", x.count(6), 3);
        x.undo();
        Check.due("10: undone", x.lessonAt(0, 1), -5);
        Check.due("10: free again", x.roomAt(2, 11), -5);
    }

    private static void promise11() {
        CycleTimetable x = school();
        x.place(0, 4, 1);
        x.place(0, 7, 1);
        int[][] unknown = {{-1, 4}, {3, 4}, {0, -1}, {0, 12}, {0, 5}, {1, 4}};
        for (int[] u : unknown) {
            Check.due("11: unknown", x.takeAway(u[0], u[1]), -1);
        }
        Check.due("11: takeAway", x.takeAway(0, 4), 1);
        Check.due("11: again", x.takeAway(0, 4), -1);
        Check.due("11: room is free", x.roomAt(1, 4), -5);
        Check.due("11: teacher is free", x.teacherAt(0, 4), -5);
        Check.due("11: group is free", x.groupAt(0, 0, 4), -5);
        Check.due("11: no reason", x.reason(0, 4, 1), 0);
        Check.due("11: last", x.takeAway(0, 7), 0);
        Check.due("11: an act", x.undo(), 3);
        Check.due("11: undone", x.roomAt(1, 7), 0);
    }

    private static void promise12() {
        CycleTimetable x = school();
        x.place(0, 0, 1);
        x.place(0, 1, 1);
        x.place(1, 5, 2);
        int[][] unknown = {{-1, 0, 2, 0}, {3, 0, 2, 0}, {0, -1, 2, 0}, {0, 12, 2, 0}, {0, 0, -1, 0},
            {0, 0, 12, 0}, {0, 0, 2, -1}, {0, 0, 2, 3}, {0, 2, 3, 0}, {1, 0, 2, 0}};
        for (int[] u : unknown) {
            Check.due("12: unknown", x.move(u[0], u[1], u[2], u[3]), -1);
        }
        Check.due("12: states", x.count(9), 4);
        Check.due("12: it is there", x.move(0, 0, 0, 1), -5);
        Check.due("12: where the other one is", x.move(0, 0, 1, 1), -4);
        Check.due("12: room taken", x.move(0, 0, 5, 2), -4);
        Check.due("12: not moved", x.lessonAt(0, 0), 1);
        Check.due("12: on the same day", x.move(0, 0, 2, 0), 1);
        Check.due("12: another room", x.move(0, 2, 2, 2), 0);
        Check.due("12: other day", x.move(0, 1, 11, 1), 1);
        Check.due("12: first", x.lessonAt(0, 0), 22);
        Check.due("12: second", x.lessonAt(0, 1), 111);
        Check.due("12: undo", x.undo(), 3);
        Check.due("12: undone", x.lessonAt(0, 0), 11);
        x.undo();
        Check.due("12: undone", x.lessonAt(0, 1), 20);
        x.undo();
        Check.due("12: undone", x.lessonAt(0, 0), 1);
        x.fill(0);
        Check.due("12: all are placed", x.reason(0, 11, 0), 1);
        Check.due("12: taken away first", x.move(0, 0, 11, 0), 1);
    }

    private static void promise13() {
        CycleTimetable x = school();
        x.place(0, 0, 0);
        x.place(1, 4, 1);
        x.place(1, 8, 1);
        int[][] unknown = {{-1, 0, 1, 4}, {3, 0, 1, 4}, {0, -1, 1, 4}, {0, 12, 1, 4}, {0, 0, -1, 4},
            {0, 0, 3, 4}, {0, 0, 1, -1}, {0, 0, 1, 12}, {0, 1, 1, 4}, {0, 0, 1, 5}, {0, 3, 1, 3}};
        for (int[] u : unknown) {
            Check.due("13: unknown", x.swap(u[0], u[1], u[2], u[3]), -1);
        }
        Check.due("13: swap", x.swap(0, 0, 1, 4), 2);
        Check.due("13: an act", x.count(9), 4);
        Check.due("13: first", x.lessonAt(0, 0), 40);
        Check.due("13: second", x.lessonAt(1, 0), 1);
        Check.due("13: undo", x.undo(), 3);
        Check.due("13: undone", x.lessonAt(0, 0), 0);
        x.place(2, 8, 0);
        Check.due("13: not placed", x.course(2, 6), 0);
        x.place(2, 5, 2);
        Check.due("13: teacher barred", x.bar(0, 8, true), 1);
        Check.due("13: first is barred", x.swap(0, 0, 1, 8), -4);
        Check.due("13: second is barred", x.swap(1, 8, 0, 0), -4);
        Check.due("13: no change", x.count(9), 4);
        x.bar(0, 8, false);
        x.place(0, 6, 2);
        Check.due("13: three lessons in both", x.place(1, 0, 1), 3);
        Check.due("13: lessons of all courses", x.swap(0, 0, 2, 5), -4);
        Check.due("13: both slots the same", x.swap(0, 0, 1, 0), -5);
        Check.due("13: one lesson", x.swap(0, 0, 0, 0), -5);
        CycleTimetable y = school();
        y.addGroup();
        y.addTeacher(9, 3);
        y.addCourse(2, 0, 2, 0, 3);
        y.place(0, 0, 0);
        y.place(1, 4, 1);
        y.place(3, 4, 2);
        Check.due("13: three lessons", y.swap(0, 0, 1, 4), 3);
        Check.due("13: back", y.swap(1, 0, 0, 4), 3);
        Check.due("13: room is taken there", y.move(1, 4, 4, 0), 1);
        Check.due("13: move the third", y.move(3, 4, 0, 2), 2);
        Check.due("13: the rooms swap too", y.swap(0, 0, 1, 4), 3);
        Check.due("13: room taken", y.move(0, 4, 5, 2), 0);
        Check.due("13: first one's room taken", y.swap(0, 5, 3, 0), 3);
    }

    private static void swapOneCourse() {
        CycleTimetable x = school();
        x.place(0, 0, 0);
        x.place(0, 4, 1);
        Check.due("13: one course", x.swap(0, 0, 0, 4), 2);
        Check.due("13: its rooms are swapped", x.lessonAt(0, 0), 1);
        Check.due("13: its rooms are swapped", x.lessonAt(0, 1), 40);
        x.move(0, 0, 0, 0);
        Check.due("13: one course, one room", x.swap(0, 4, 0, 0), 2);
        Check.due("13: an act all the same", x.undo(), 3);
        Check.due("13: as before", x.lessonAt(0, 0), 0);
    }

    /** The first lesson is placed before the second one, and stands against it. */
    private static void swapInItsOrder() {
        CycleTimetable x = school();
        x.place(0, 0, 2);
        x.place(1, 1, 2);
        x.place(1, 0, 1);
        Check.due("13: the teacher is busy", x.swap(0, 0, 1, 1), -4);
        x.takeAway(1, 0);
        Check.due("13: both in one room", x.swap(0, 0, 1, 1), 2);
        Check.due("13: room", x.roomAt(2, 0), 1);
        Check.due("13: room", x.roomAt(2, 1), 0);
    }

    private static void promise14() {
        CycleTimetable x = school();
        Check.due("14: unknown", x.fill(3), -1);
        Check.due("14: unknown", x.fill(-1), -1);
        x.place(1, 0, 0);
        x.bar(0, 1, true);
        Check.due("14: fill", x.fill(0), 4);
        int[] places = {1, 20, 30, 40};
        for (int i = 0; i < places.length; i++) {
            Check.due("14: lessonAt(0, " + i + ")", x.lessonAt(0, i), places[i]);
        }
        Check.due("14: one act", x.count(9), 4);
        Check.due("14: all are placed", x.fill(0), -5);
        Check.due("14: the room must do", x.fill(2), 4);
        int[] others = {10, 50, 60, 70};
        for (int i = 0; i < others.length; i++) {
            Check.due("14: lessonAt(2, " + i + ")", x.lessonAt(2, i), others[i]);
        }
        x.undo();
        Check.due("14: undone", x.course(2, 6), 0);
        CycleTimetable y = new CycleTimetable();
        y.setCycle(2, 2);
        y.addGroup();
        y.addTeacher(40, 6);
        y.addCourse(0, 0, 0, 0, 10);
        Check.due("14: no room", y.fill(0), -5);
        y.addRoom(0);
        Check.due("14: some of them", y.fill(0), 4);
        Check.due("14: no more", y.fill(0), -5);
        Check.due("14: not recorded", y.count(9), 4);
        y.takeAway(0, 2);
        Check.due("14: the missing one", y.fill(0), 1);
        Check.due("14: where it was", y.lessonAt(0, 2), 20);
    }

    private static void promise21() {
        CycleTimetable x = new CycleTimetable();
        x.setCycle(4, 3);
        x.addGroup();
        x.addGroup();
        x.addTeacher(3, 2);
        x.addTeacher(40, 6);
        x.addRoom(5);
        x.addRoom(15);
        x.addCourse(0, 0, 0, 4, 2);
        x.addCourse(1, 0, 0, 0, 5);
        x.addCourse(0, 0, 1, 8, 9);
        Check.due("21: none", x.reason(0, 0, 0), 0);
        Check.due("21: lacks equipment", x.reason(2, 0, 0), 9);
        Check.due("21: all equipment", x.reason(2, 0, 1), 0);
        x.place(0, 0, 0);
        Check.due("21: teacher is busy", x.reason(1, 0, 1), 4);
        Check.due("21: group is busy", x.reason(2, 0, 1), 7);
        x.place(0, 1, 0);
        Check.due("21: all are placed", x.reason(0, 5, 0), 1);
        Check.due("21: most of a day", x.reason(1, 2, 1), 5);
        Check.due("21: another day", x.reason(1, 3, 1), 0);
        x.place(2, 3, 1);
        Check.due("21: room is taken", x.reason(1, 3, 1), 8);
        x.place(2, 4, 1);
        Check.due("21: two on the day", x.reason(2, 5, 1), 2);
        Check.due("21: two on another day", x.reason(2, 6, 1), 0);
        x.place(1, 5, 0);
        Check.due("21: most of the cycle", x.reason(1, 9, 0), 6);
        x.takeAway(0, 0);
        x.bar(0, 9, true);
        Check.due("21: barred", x.reason(1, 9, 0), 3);
        Check.due("21: asking is no act", x.undo(), 3);
    }

    /** Each reason goes before the later ones that stand as well. */
    private static void reasonsInTheirOrder() {
        CycleTimetable x = new CycleTimetable();
        x.setCycle(2, 4);
        x.addGroup();
        x.addTeacher(2, 2);
        x.addTeacher(9, 6);
        x.addRoom(0);
        x.addRoom(1);
        x.addCourse(0, 0, 0, 1, 2);
        x.addCourse(0, 0, 0, 1, 3);
        x.addCourse(0, 1, 1, 0, 3);
        x.addCourse(0, 2, 1, 0, 3);
        x.place(0, 0, 1);
        x.place(0, 1, 1);
        x.bar(0, 2, true);
        Check.due("21: 1 before 2", x.reason(0, 2, 0), 1);
        x.takeAway(0, 0);
        x.takeAway(0, 1);
        x.place(1, 0, 1);
        x.place(1, 1, 1);
        Check.due("21: 2 before 3", x.reason(1, 2, 0), 2);
        Check.due("21: 3 before 5", x.reason(0, 2, 0), 3);
        Check.due("21: 4 before 5", x.reason(0, 1, 0), 4);
        x.place(2, 3, 0);
        Check.due("21: 5 before 6", x.reason(0, 3, 0), 5);
        x.place(2, 4, 0);
        Check.due("21: 6 before 7", x.reason(0, 4, 0), 6);
        x.takeAway(1, 1);
        Check.due("21: 7 before 8", x.reason(0, 4, 0), 7);
        x.takeAway(2, 4);
        Check.due("21: 9 alone", x.reason(0, 4, 0), 9);
        x.addGroup();
        x.addCourse(1, 0, 1, 0, 1);
        x.place(4, 4, 0);
        Check.due("21: 8 before 9", x.reason(0, 4, 0), 8);
        Check.due("21: 4 before 7 and 8", x.reason(3, 4, 0), 4);
    }

    private static void busyGroups() {
        CycleTimetable x = new CycleTimetable();
        x.setCycle(2, 2);
        for (int i = 0; i < 3; i++) {
            x.addGroup();
        }
        int[][] kinds = {{0, 0}, {0, 1}, {0, 2}, {1, 0}, {1, 1}, {1, 2}, {2, 2}};
        for (int i = 0; i < kinds.length; i++) {
            x.addTeacher(9, 6);
            x.addCourse(kinds[i][0], kinds[i][1], i, 0, 4);
        }
        x.addTeacher(9, 6);
        x.addCourse(0, 0, 7, 0, 4);
        x.join(7, 1);
        x.addRoom(0);
        x.addRoom(0);
        int[][] due = {
            {4, 7, 7, 0, 0, 0, 0, 7}, {7, 4, 0, 0, 0, 0, 0, 7}, {7, 0, 4, 0, 0, 0, 0, 7},
            {0, 0, 0, 4, 7, 7, 0, 7}, {0, 0, 0, 7, 4, 0, 0, 7}, {0, 0, 0, 7, 0, 4, 0, 7},
            {0, 0, 0, 0, 0, 0, 4, 0}, {7, 7, 7, 7, 7, 7, 0, 4}};
        for (int there = 0; there < 8; there++) {
            Check.due("21: place", x.place(there, 1, 0), 1);
            for (int asked = 0; asked < 8; asked++) {
                Check.due("21: " + asked + " against " + there, x.reason(asked, 1, 1), due[there][asked]);
            }
            x.takeAway(there, 1);
        }
        x.place(1, 1, 0);
        x.place(2, 1, 1);
        x.takeAway(1, 1);
        Check.due("21: the other half stays", x.reason(0, 1, 0), 7);
        Check.due("21: this half is free", x.reason(1, 1, 0), 0);
    }
}

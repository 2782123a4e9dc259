/** Promises 4 to 9: groups, teachers, rooms, courses, joining and barring. */
public final class PeopleTest {
    private static final int[] BAD_EQUIPMENT = {-1, 16, Integer.MIN_VALUE, Integer.MAX_VALUE};

    public static void main(String[] args) {
        promise4();
        promise5();
        promise6();
        promise7();
        promise8();
        promise9();
        Check.end();
    }

    private static void promise4() {
        CycleTimetable x = new CycleTimetable();
        for (int i = 0; i < 8; i++) {
            Check.due("4: addGroup()", x.addGroup(), i);
        }
        Check.due("4: full", x.addGroup(), -3);
        Check.due("4: count", x.count(2), 8);
        Check.due("4: an act", x.undo(), 3);
        Check.due("4: undone", x.count(2), 7);
        Check.due("4: again", x.addGroup(), 7);
    }

    private static void promise5() {
        CycleTimetable x = new CycleTimetable();
        int[][] bad = {{0, 1}, {41, 1}, {1, 0}, {1, 7}, {-1, 1}, {1, -1}, {Integer.MAX_VALUE, 1}};
        for (int[] b : bad) {
            Check.due("5: addTeacher(" + b[0] + ", " + b[1] + ")", x.addTeacher(b[0], b[1]), -2);
        }
        Check.due("5: nothing recorded", x.count(9), 0);
        for (int i = 0; i < 8; i++) {
            Check.due("5: addTeacher", x.addTeacher(i == 0 ? 1 : 40 - i + 1, i == 0 ? 1 : 6), i);
        }
        Check.due("5: full", x.addTeacher(1, 1), -3);
        Check.due("5: bad before full", x.addTeacher(41, 1), -2);
        Check.due("5: cycle", x.teacher(0, 0), 1);
        Check.due("5: cycle", x.teacher(1, 0), 40);
        Check.due("5: day", x.teacher(0, 1), 1);
        Check.due("5: day", x.teacher(7, 1), 6);
        Check.due("5: an act", x.undo(), 3);
        Check.due("5: undone", x.teacher(7, 0), -1);
    }

    private static void promise6() {
        CycleTimetable x = new CycleTimetable();
        for (int bad : BAD_EQUIPMENT) {
            Check.due("6: addRoom(" + bad + ")", x.addRoom(bad), -2);
        }
        for (int i = 0; i < 6; i++) {
            Check.due("6: addRoom", x.addRoom(i * 3), i);
        }
        Check.due("6: full", x.addRoom(0), -3);
        Check.due("6: bad before full", x.addRoom(16), -2);
        Check.due("6: equipment", x.room(5, 0), 15);
        Check.due("6: an act", x.undo(), 3);
        Check.due("6: undone", x.count(4), 5);
    }

    private static void promise7() {
        CycleTimetable x = new CycleTimetable();
        Check.due("7: no group", x.addCourse(0, 0, 0, 0, 1), -1);
        x.addGroup();
        Check.due("7: no teacher", x.addCourse(0, 0, 0, 0, 1), -1);
        x.addTeacher(9, 3);
        int[][] unknown = {{-1, 0}, {1, 0}, {0, -1}, {0, 1}};
        for (int[] u : unknown) {
            Check.due("7: unknown", x.addCourse(u[0], 0, u[1], 0, 1), -1);
            Check.due("7: unknown before bad", x.addCourse(u[0], 3, u[1], 16, 0), -1);
        }
        int[][] bad = {{-1, 0, 1}, {3, 0, 1}, {0, -1, 1}, {0, 16, 1}, {0, 0, 0}, {0, 0, 11}, {0, 0, -1}};
        for (int[] b : bad) {
            Check.due("7: bad", x.addCourse(0, b[0], 0, b[1], b[2]), -2);
        }
        Check.due("7: nothing recorded", x.count(9), 2);
        for (int i = 0; i < 20; i++) {
            Check.due("7: addCourse", x.addCourse(0, i % 3, 0, i % 16, i % 10 + 1), i);
        }
        Check.due("7: full", x.addCourse(0, 0, 0, 0, 1), -3);
        Check.due("7: bad before full", x.addCourse(0, 3, 0, 0, 1), -2);
        for (int i = 0; i < 20; i++) {
            Check.due("7: part", x.course(i, 2), i % 3);
            Check.due("7: equipment", x.course(i, 4), i % 16);
            Check.due("7: lessons", x.course(i, 5), i % 10 + 1);
        }
        Check.due("7: an act", x.undo(), 3);
        Check.due("7: undone", x.count(5), 19);
        x.undo();
        x.undo();
        x.undo();
        Check.due("7: unknown course", x.course(16, 0), -1);
    }

    /** A number that was joined, and is undone and added again, is not joined. */
    private static void joinedBefore() {
        CycleTimetable x = new CycleTimetable();
        x.addGroup();
        x.addGroup();
        x.addTeacher(9, 3);
        x.addCourse(0, 0, 0, 0, 2);
        x.join(0, 1);
        x.undo();
        x.undo();
        x.addCourse(1, 0, 0, 0, 2);
        Check.due("7: not joined", x.course(0, 1), -5);
        Check.due("7: its group", x.course(0, 0), 1);
    }

    private static void promise8() {
        joinedBefore();
        CycleTimetable x = new CycleTimetable();
        x.addGroup();
        x.addGroup();
        x.addGroup();
        x.addTeacher(9, 3);
        x.addRoom(0);
        x.addCourse(1, 0, 0, 0, 4);
        x.addCourse(1, 1, 0, 0, 4);
        x.addCourse(1, 2, 0, 0, 4);
        x.addCourse(0, 0, 0, 0, 3);
        Check.due("8: no course", x.join(4, 0), -1);
        Check.due("8: course -1", x.join(-1, 0), -1);
        Check.due("8: no group", x.join(0, 3), -1);
        Check.due("8: group -1", x.join(0, -1), -1);
        Check.due("8: unknown before not possible", x.join(1, -5), -1);
        Check.due("8: half 1", x.join(1, 0), -4);
        Check.due("8: half 2", x.join(2, 0), -4);
        Check.due("8: its own", x.join(0, 1), -4);
        Check.due("8: join", x.join(0, 0), 4);
        Check.due("8: an act", x.count(9), 4);
        Check.due("8: joined", x.course(0, 1), 0);
        Check.due("8: joined already", x.join(0, 2), -4);
        Check.due("8: joined already, the same", x.join(0, 0), -4);
        Check.due("8: place", x.place(3, 0, 0), 1);
        Check.due("8: a lesson is placed", x.join(3, 2), -4);
        x.takeAway(3, 0);
        Check.due("8: taken away", x.join(3, 2), 3);
        Check.due("8: joined", x.course(3, 1), 2);
        x.undo();
        Check.due("8: undone", x.course(3, 1), -5);
    }

    private static void promise9() {
        CycleTimetable x = new CycleTimetable();
        Check.due("9: no teacher", x.bar(0, 0, true), -1);
        x.addGroup();
        x.addTeacher(9, 3);
        x.addTeacher(9, 3);
        x.addRoom(0);
        x.addCourse(0, 0, 0, 0, 3);
        Check.due("9: slot -1", x.bar(0, -1, true), -1);
        Check.due("9: slot 30", x.bar(0, 30, true), -1);
        Check.due("9: teacher -1", x.bar(-1, 0, true), -1);
        Check.due("9: teacher 2", x.bar(2, 0, true), -1);
        Check.due("9: is not", x.bar(0, 0, false), -5);
        Check.due("9: bar", x.bar(0, 0, true), 1);
        Check.due("9: bar", x.bar(0, 29, true), 2);
        Check.due("9: again", x.bar(0, 29, true), -5);
        Check.due("9: another teacher", x.bar(1, 29, true), 1);
        Check.due("9: no more", x.bar(0, 0, false), 1);
        Check.due("9: an act", x.count(9), 4);
        x.place(0, 3, 0);
        Check.due("9: has a lesson", x.bar(0, 3, true), -4);
        Check.due("9: is not barred", x.bar(0, 3, false), -5);
        Check.due("9: another has", x.bar(1, 3, true), 2);
        Check.due("9: lesson in a barred slot", x.place(0, 29, 0), -4);
        x.undo();
        Check.due("9: undone", x.teacher(1, 4), 1);
    }
}

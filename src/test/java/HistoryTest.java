import java.util.function.ToIntFunction;

/** Promises 18 to 20: undo, the snapshot, and what records a state. */
public final class HistoryTest {
    public static void main(String[] args) {
        promise18();
        everythingIsUndone();
        promise19();
        promise20();
        actsRecordOne();
        othersRecordNone();
        Check.end();
    }

    private static void promise18() {
        CycleTimetable x = new CycleTimetable();
        Check.due("18: empty", x.undo(), -5);
        for (int i = 1; i <= 7; i++) {
            x.addGroup();
            Check.due("18: states", x.count(9), Math.min(4, i));
        }
        for (int i = 3; i >= 0; i--) {
            Check.due("18: undo", x.undo(), i);
            Check.due("18: groups", x.count(2), 3 + i);
        }
        Check.due("18: empty", x.undo(), -5);
        Check.due("18: groups", x.count(2), 3);
        x.addGroup();
        x.addRoom(1);
        Check.due("18: undo", x.undo(), 1);
        x.addTeacher(2, 2);
        x.addGroup();
        x.addGroup();
        x.addGroup();
        Check.due("18: states", x.count(9), 4);
        x.undo();
        x.undo();
        x.undo();
        Check.due("18: undo", x.undo(), 0);
        Check.due("18: no teacher", x.count(3), 0);
        Check.due("18: groups", x.count(2), 4);
        Check.due("18: no room", x.count(4), 0);
        Check.due("18: the oldest are gone", x.undo(), -5);
    }

    private static void everythingIsUndone() {
        CycleTimetable x = new CycleTimetable();
        x.addGroup();
        x.addGroup();
        x.addTeacher(9, 3);
        x.addRoom(3);
        x.addCourse(0, 0, 0, 1, 3);
        x.bar(0, 7, true);
        x.holiday(5, true);
        x.place(0, 3, 0);
        x.type('z');
        x.place(0, 4, 0);
        x.move(0, 4, 9, 0);
        x.swap(0, 3, 0, 9);
        x.takeAway(0, 3);
        for (int i = 0; i < 4; i++) {
            x.undo();
        }
        Check.due("18: placed", x.course(0, 6), 1);
        Check.due("18: lesson", x.lessonAt(0, 0), 30);
        Check.due("18: barred", x.teacher(0, 4), 1);
        Check.due("18: holiday", x.dayOf(5), -5);
        Check.due("18: not the text", x.count(10), 1);
        Check.due("18: half", x.group(0, 2, 0), 1);
        Check.due("18: room", x.room(0, 1), 1);
        Check.due("18: teacher", x.teacher(0, 2), 1);
    }

    private static void promise19() {
        CycleTimetable x = new CycleTimetable();
        Check.due("19: keep", x.keep(), 0);
        Check.due("19: no act", x.count(9), 0);
        x.addGroup();
        x.addTeacher(9, 3);
        x.addRoom(0);
        x.addCourse(0, 0, 0, 0, 5);
        x.fill(0);
        Check.due("19: keep", x.keep(), 5);
        Check.due("19: no act", x.count(9), 4);
        x.undo();
        Check.due("19: not undone", x.restore(), 5);
        Check.due("19: in place of the other", x.count(5), 1);
        x.takeAway(0, 0);
        Check.due("19: keep again", x.keep(), 4);
        x.takeAway(0, 1);
        Check.due("19: the new one", x.restore(), 4);
    }

    private static void promise20() {
        CycleTimetable x = new CycleTimetable();
        Check.due("20: none", x.restore(), -5);
        Check.due("20: nothing recorded", x.count(9), 0);
        x.addGroup();
        x.addTeacher(9, 3);
        x.addRoom(0);
        x.addCourse(0, 0, 0, 0, 5);
        x.place(0, 2, 0);
        x.holiday(3, true);
        x.keep();
        x.setCycle(3, 3);
        x.holiday(3, false);
        x.place(0, 1, 0);
        x.type('q');
        Check.due("20: restore", x.restore(), 1);
        Check.due("20: an act", x.count(9), 4);
        Check.due("20: lesson", x.lessonAt(0, 0), 20);
        Check.due("20: lesson", x.lessonAt(0, 1), -5);
        Check.due("20: holiday", x.dayOf(3), -5);
        Check.due("20: not the text", x.count(10), 1);
        Check.due("20: undo", x.undo(), 3);
        Check.due("20: undone", x.course(0, 6), 2);
        Check.due("20: it stays", x.restore(), 1);
        Check.due("20: of the same state", x.restore(), 1);
        Check.due("20: an act all the same", x.undo(), 3);
        Check.due("20: still restored", x.course(0, 6), 1);
        x.takeAway(0, 2);
        Check.due("20: the snapshot has it", x.restore(), 1);
    }

    /** A school with three lessons, whose history holds one state. */
    private static CycleTimetable prepared() {
        CycleTimetable x = new CycleTimetable();
        x.addGroup();
        x.addGroup();
        x.addTeacher(9, 3);
        x.addTeacher(9, 3);
        x.addRoom(1);
        x.addRoom(1);
        x.addCourse(0, 0, 0, 1, 3);
        x.addCourse(1, 0, 1, 1, 3);
        x.addCourse(1, 0, 1, 1, 3);
        x.place(0, 0, 0);
        x.place(0, 5, 1);
        x.place(1, 10, 0);
        x.bar(0, 20, true);
        x.holiday(7, true);
        x.keep();
        for (int i = 0; i < 4; i++) {
            x.undo();
        }
        Check.due("18: empty", x.undo(), -5);
        Check.due("20: restore", x.restore(), 3);
        Check.due("20: one state", x.count(9), 1);
        return x;
    }

    private static void records(String name, int due, ToIntFunction<CycleTimetable> act) {
        CycleTimetable x = prepared();
        Check.due("18: " + name, act.applyAsInt(x), due);
        Check.due("18: states behind " + name, x.count(9), 2);
        Check.due("18: undo of " + name, x.undo(), 1);
        asPrepared(name, x);
    }

    private static void asPrepared(String name, CycleTimetable x) {
        int[] due = {6, 5, 2, 2, 2, 3, 3, 6, 1, 1};
        for (int what = 0; what < due.length; what++) {
            Check.due("18: count(" + what + ") behind " + name, x.count(what), due[what]);
        }
        Check.due("18: first lesson behind " + name, x.lessonAt(0, 0), 0);
        Check.due("18: second lesson behind " + name, x.lessonAt(0, 1), 51);
        Check.due("18: third lesson behind " + name, x.lessonAt(1, 0), 100);
        Check.due("18: joined behind " + name, x.course(2, 1), -5);
        Check.due("18: bars behind " + name, x.teacher(0, 4), 1);
        Check.due("18: holiday behind " + name, x.dayOf(7), -5);
    }

    private static void actsRecordOne() {
        records("holiday", 2, x -> x.holiday(8, true));
        records("no holiday", 0, x -> x.holiday(7, false));
        records("addGroup", 2, CycleTimetable::addGroup);
        records("addTeacher", 2, x -> x.addTeacher(1, 1));
        records("addRoom", 2, x -> x.addRoom(0));
        records("addCourse", 3, x -> x.addCourse(0, 0, 0, 0, 1));
        records("join", 3, x -> x.join(2, 0));
        records("bar", 2, x -> x.bar(0, 21, true));
        records("no bar", 0, x -> x.bar(0, 20, false));
        records("place", 3, x -> x.place(0, 10, 1));
        records("takeAway", 1, x -> x.takeAway(0, 0));
        records("move", 1, x -> x.move(0, 5, 6, 0));
        records("swap", 2, x -> x.swap(0, 0, 1, 10));
        records("fill", 1, x -> x.fill(0));
        records("readPlacings", 2, x -> Check.read(x, "2@0r1;1@5r0"));
        records("restore", 3, CycleTimetable::restore);
        CycleTimetable x = new CycleTimetable();
        Check.due("18: setCycle", x.setCycle(3, 3), 9);
        Check.due("18: states behind setCycle", x.count(9), 1);
    }

    private static void recordsNone(String name, int due, ToIntFunction<CycleTimetable> call) {
        CycleTimetable x = prepared();
        Check.due("18: " + name, call.applyAsInt(x), due);
        asPrepared(name, x);
    }

    private static void othersRecordNone() {
        recordsNone("setCycle, bad", -2, x -> x.setCycle(9, 9));
        recordsNone("setCycle, not possible", -4, x -> x.setCycle(6, 5));
        recordsNone("holiday, bad", -2, x -> x.holiday(400, true));
        recordsNone("holiday, none", -5, x -> x.holiday(7, true));
        recordsNone("addTeacher, bad", -2, x -> x.addTeacher(0, 0));
        recordsNone("addRoom, bad", -2, x -> x.addRoom(16));
        recordsNone("addCourse, unknown", -1, x -> x.addCourse(2, 0, 0, 0, 1));
        recordsNone("addCourse, bad", -2, x -> x.addCourse(0, 0, 0, 0, 11));
        recordsNone("join, unknown", -1, x -> x.join(2, 2));
        recordsNone("join, not possible", -4, x -> x.join(0, 1));
        recordsNone("bar, unknown", -1, x -> x.bar(0, 30, true));
        recordsNone("bar, not possible", -4, x -> x.bar(0, 0, true));
        recordsNone("bar, none", -5, x -> x.bar(0, 20, true));
        recordsNone("place, unknown", -1, x -> x.place(0, 1, 2));
        recordsNone("place, not possible", -4, x -> x.place(0, 20, 0));
        recordsNone("takeAway, unknown", -1, x -> x.takeAway(0, 1));
        recordsNone("move, unknown", -1, x -> x.move(0, 1, 2, 0));
        recordsNone("move, not possible", -4, x -> x.move(0, 0, 20, 0));
        recordsNone("move, none", -5, x -> x.move(0, 0, 0, 0));
        recordsNone("swap, unknown", -1, x -> x.swap(0, 0, 1, 11));
        recordsNone("swap, not possible", -4, x -> x.swap(0, 0, 0, 1) == -1 ? swapBarred(x) : 0);
        recordsNone("swap, none", -5, x -> x.swap(0, 0, 0, 0));
        recordsNone("fill, unknown", -1, x -> x.fill(3));
        recordsNone("undo and restore", 3, x -> x.undo() == 0 ? x.restore() : 0);
        recordsNone("keep", 3, CycleTimetable::keep);
        recordsNone("readPlacings, fault", -105, x -> Check.read(x, "0@1r0x"));
        recordsNone("readPlacings, unknown", -1, x -> Check.read(x, "0@1r0;3@1r0"));
        recordsNone("readPlacings, not possible", -4, x -> Check.read(x, "0@1r0;0@2r0"));
        recordsNone("type and clearText", 1, x -> x.type('0') + 0 * x.clearText());
        recordsNone("clearText", 0, CycleTimetable::clearText);
    }

    /** A swap whose second lesson would come to a slot from which its teacher is barred. */
    private static int swapBarred(CycleTimetable x) {
        x.bar(1, 0, true);
        int answer = x.swap(0, 0, 1, 10);
        x.undo();
        return answer;
    }
}

import java.util.ArrayList;
import java.util.List;

/** Boundary cases of promises 18 to 20. */
public final class HistoryBoundsTest {
    public static void main(String[] args) {
        emptyHistory();
        fourStates();
        theFifthDropsTheOldest();
        undoAndActsInTurn();
        undoIsNoAct();
        undoOfAllThatAStateIs();
        undoLeavesTextAndSnapshot();
        emptySnapshot();
        snapshotOfANewObject();
        keepIsNoAct();
        keepInPlaceOfTheOther();
        keepTellsTheLessons();
        snapshotIsNotChanged();
        restoreIsAnAct();
        restoreOfTheSameState();
        restoreDropsTheOldest();
        restoreOfAllThatAStateIs();
        Check.end();
    }

    // ---- promise 18

    private static void emptyHistory() {
        Refused.due("18: the history is empty", CycleTimetable::new, CycleTimetable::undo, -5);
        Refused.due("18: the history is empty again", HistoryBoundsTest::undone, CycleTimetable::undo, -5);
    }

    private static CycleTimetable undone() {
        CycleTimetable x = Schools.busy();
        for (int left = 3; left >= 0; left--) {
            Check.due("18: undo", x.undo(), left);
        }
        return x;
    }

    private static void fourStates() {
        for (int acts = 1; acts <= 4; acts++) {
            CycleTimetable x = new CycleTimetable();
            for (int act = 1; act <= acts; act++) {
                x.addGroup();
                Check.due("18: states", x.count(9), act);
            }
            for (int left = acts - 1; left >= 0; left--) {
                Check.due("18: undo", x.undo(), left);
                Check.due("18: groups", x.count(2), left);
            }
            Check.due("18: the history is empty", x.undo(), -5);
            Check.due("18: no group", x.count(2), 0);
        }
    }

    /** One to twelve states too many. */
    private static void theFifthDropsTheOldest() {
        for (int acts = 5; acts <= 16; acts++) {
            CycleTimetable x = new CycleTimetable();
            for (int act = 0; act < acts; act++) {
                x.holiday(act, true);
            }
            Check.due("18: states behind " + acts + " acts", x.count(9), 4);
            for (int left = 3; left >= 0; left--) {
                Check.due("18: undo", x.undo(), left);
                Check.due("18: holidays", x.count(8), acts - 4 + left);
            }
            Check.due("18: the oldest are dropped", x.undo(), -5);
            Check.due("18: holidays", x.count(8), acts - 4);
        }
    }

    private static void undoAndActsInTurn() {
        for (int first = 0; first <= 6; first++) {
            for (int undos = 0; undos <= 5; undos++) {
                for (int second = 0; second <= 6; second++) {
                    inTurn(first, undos, second);
                }
            }
        }
    }

    /** Each act makes one more holiday; a state is told by their number. */
    private static void inTurn(int first, int undos, int second) {
        CycleTimetable x = new CycleTimetable();
        List<Integer> states = new ArrayList<>();
        int holidays = 0;
        int[] calls = {first, -undos, second, -5, 3, -4};
        for (int call : calls) {
            for (int i = 0; i < Math.abs(call); i++) {
                if (call > 0) {
                    states.add(holidays);
                    if (states.size() > 4) {
                        states.remove(0);
                    }
                    holidays++;
                    Check.due("18: holiday", x.holiday(holidays, true), holidays);
                } else {
                    int left = states.size() - 1;
                    holidays = left < 0 ? holidays : states.remove(left);
                    Check.due("18: undo", x.undo(), left < 0 ? -5 : left);
                }
                Check.due("18: states", x.count(9), states.size());
                Check.due("18: holidays", x.count(8), holidays);
            }
        }
    }

    private static void undoIsNoAct() {
        CycleTimetable x = Schools.busy();
        Check.due("18: undo", x.undo(), 3);
        Check.due("18: nothing is recorded", x.count(9), 3);
        Check.due("18: the lesson is gone", x.lessonAt(2, 0), -5);
        Check.due("18: undo goes on", x.undo(), 2);
        Check.due("18: the holiday is gone", x.count(8), 0);
        Check.due("18: the lesson does not come back", x.lessonAt(2, 0), -5);
    }

    private static void undoOfAllThatAStateIs() {
        CycleTimetable x = Schools.against(0);
        x.place(0, 4, 0);
        x.bar(1, 7, true);
        x.holiday(9, true);
        int[] due = {3, 3, 3, 3, 3, 5, 1, 24, 1};
        counts("18: before", x, due);
        x.takeAway(0, 4);
        x.setCycle(2, 2);
        counts("18: another cycle", x, new int[] {2, 2, 3, 3, 3, 5, 0, 25, 1});
        Check.due("18: not barred", x.teacher(1, 4), 0);
        x.undo();
        Check.due("18: barred", x.teacher(1, 4), 1);
        x.undo();
        counts("18: undone", x, due);
        x.addGroup();
        x.addTeacher(1, 2);
        x.addRoom(7);
        x.addCourse(3, 1, 3, 4, 6);
        counts("18: added", x, new int[] {3, 3, 4, 4, 4, 6, 1, 30, 1});
        for (int i = 0; i < 4; i++) {
            x.undo();
        }
        counts("18: undone", x, due);
        x.join(4, 1);
        x.move(0, 4, 8, 1);
        x.bar(1, 7, false);
        x.holiday(9, false);
        for (int i = 0; i < 4; i++) {
            x.undo();
        }
        counts("18: undone", x, due);
        Check.due("18: not joined", x.course(4, 1), -5);
        Check.due("18: not moved", x.lessonAt(0, 0), 40);
        Check.due("18: barred", x.reason(3, 7, 0), 3);
        Check.due("18: a holiday", x.dayOf(9), -5);
    }

    private static void counts(String name, CycleTimetable x, int[] due) {
        for (int what = 0; what < due.length; what++) {
            Check.due(name + ", count(" + what + ")", x.count(what), due[what]);
        }
    }

    private static void undoLeavesTextAndSnapshot() {
        CycleTimetable x = new CycleTimetable();
        x.addGroup();
        x.type('7');
        x.keep();
        x.undo();
        Check.due("18: the text stays", x.count(10), 1);
        Check.due("18: the snapshot stays", x.restore(), 0);
        Check.due("18: its group", x.count(2), 1);
        CycleTimetable y = new CycleTimetable();
        y.addGroup();
        y.keep();
        y.addGroup();
        y.undo();
        y.undo();
        Check.due("18: no group", y.count(2), 0);
        y.restore();
        Check.due("18: the snapshot has one", y.count(2), 1);
    }

    // ---- promises 19 and 20

    private static void emptySnapshot() {
        Refused.due("20: there is no snapshot", CycleTimetable::new, CycleTimetable::restore, -5);
        Refused.due("20: there is no snapshot", HistoryBoundsTest::unkept, CycleTimetable::restore, -5);
    }

    private static CycleTimetable unkept() {
        CycleTimetable x = Schools.single(3, 3);
        x.fill(0);
        x.bar(0, 8, true);
        return x;
    }

    private static void snapshotOfANewObject() {
        CycleTimetable x = new CycleTimetable();
        Check.due("19: no lesson", x.keep(), 0);
        Check.due("20: no lesson", x.restore(), 0);
        Check.due("20: it is an act", x.count(9), 1);
        x.setCycle(2, 2);
        x.addGroup();
        x.addRoom(0);
        x.holiday(0, true);
        Check.due("20: no lesson", x.restore(), 0);
        counts("20: restored", x, new int[] {6, 5, 0, 0, 0, 0, 0, 0, 0, 4});
    }

    private static void keepIsNoAct() {
        CycleTimetable x = Schools.busy();
        Check.due("19: three lessons", x.keep(), 3);
        Check.due("19: nothing is recorded", x.count(9), 4);
        Check.due("19: the text stays", x.count(10), 5);
        Check.due("19: undo goes to what was before", x.undo(), 3);
        Check.due("19: two lessons", x.count(6), 2);
        CycleTimetable y = new CycleTimetable();
        y.keep();
        Check.due("19: the history is empty", y.undo(), -5);
    }

    private static void keepInPlaceOfTheOther() {
        CycleTimetable x = Schools.single(3, 3);
        for (int lessons = 0; lessons < 4; lessons++) {
            Check.due("19: keep", x.keep(), lessons);
            x.place(0, 2 * lessons, 0);
            Check.due("20: the latest one", x.restore(), lessons);
            x.place(0, 2 * lessons, 0);
        }
        Check.due("20: the latest one", x.restore(), 3);
        Check.due("20: the lessons", x.lessonAt(0, 2), 40);
        Check.due("20: the lessons", x.lessonAt(0, 3), -5);
    }

    private static void keepTellsTheLessons() {
        CycleTimetable x = Schools.full();
        Check.due("19: none", x.keep(), 0);
        int lessons = 0;
        for (int course = 0; course < 20; course++) {
            lessons += Math.max(0, x.fill(course));
            Check.due("19: the lessons", x.keep(), lessons);
        }
        Check.due("19: as many as are placed", x.count(6), lessons);
        x.takeAway(0, x.lessonAt(0, 9) / 10);
        Check.due("20: the lessons", x.restore(), lessons);
    }

    private static void snapshotIsNotChanged() {
        CycleTimetable x = Schools.busy();
        for (int i = 0; i < 6; i++) {
            Check.due("20: restore", x.restore(), 1);
            Check.due("20: its lesson", x.lessonAt(0, 0), 0);
            Check.due("20: no other one", x.lessonAt(1, 0), -5);
            x.takeAway(0, 0);
            x.setCycle(2, 2 + i % 5);
            x.addGroup();
            x.holiday(7, true);
        }
    }

    private static void restoreIsAnAct() {
        CycleTimetable x = Schools.busy();
        x.undo();
        x.undo();
        Check.due("20: restore", x.restore(), 1);
        Check.due("20: one state more", x.count(9), 3);
        Check.due("20: the text stays", x.count(10), 5);
        Check.due("20: undo", x.undo(), 2);
        Check.due("20: as before", x.count(6), 2);
        Check.due("20: barred as before", x.teacher(0, 4), 1);
        Check.due("20: restore again", x.restore(), 1);
    }

    private static void restoreOfTheSameState() {
        CycleTimetable x = new CycleTimetable();
        x.addGroup();
        x.keep();
        for (int states = 2; states <= 6; states++) {
            Check.due("20: no lesson", x.restore(), 0);
            Check.due("20: it is recorded", x.count(9), Math.min(4, states));
        }
        for (int left = 3; left >= 0; left--) {
            Check.due("20: undo", x.undo(), left);
            Check.due("20: the group", x.count(2), 1);
        }
    }

    private static void restoreDropsTheOldest() {
        CycleTimetable x = new CycleTimetable();
        x.keep();
        for (int i = 0; i < 4; i++) {
            x.addGroup();
        }
        Check.due("20: restore", x.restore(), 0);
        Check.due("20: four states", x.count(9), 4);
        for (int groups = 4; groups >= 1; groups--) {
            x.undo();
            Check.due("20: groups", x.count(2), groups);
        }
        Check.due("20: the oldest is dropped", x.undo(), -5);
    }

    private static void restoreOfAllThatAStateIs() {
        CycleTimetable x = Schools.busy();
        x.keep();
        CycleTimetable y = Schools.busy();
        x.takeAway(0, 0);
        x.takeAway(1, 0);
        x.takeAway(2, 4);
        x.setCycle(4, 4);
        x.addGroup();
        x.addTeacher(1, 1);
        x.addRoom(15);
        x.join(4, 2);
        x.addCourse(3, 0, 3, 0, 4);
        x.fill(5);
        x.bar(1, 3, true);
        x.holiday(2, false);
        Check.due("20: restore", x.restore(), 3);
        for (int what = 0; what <= 10; what++) {
            Check.due("20: count(" + what + ")", x.count(what), y.count(what));
        }
        for (int course = 0; course < 5; course++) {
            for (int what = 0; what <= 7; what++) {
                Check.due("20: course(" + course + ", " + what + ")", x.course(course, what), y.course(course, what));
                Check.due("20: lessonAt(" + course + ", " + what + ")", x.lessonAt(course, what), y.lessonAt(course, what));
            }
        }
        for (int one = 0; one < 3; one++) {
            for (int what = 0; what <= 7; what++) {
                Check.due("20: teacher(" + one + ", " + what + ")", x.teacher(one, what), y.teacher(one, what));
                Check.due("20: group(" + one + ", 1, " + what + ")", x.group(one, 1, what), y.group(one, 1, what));
                Check.due("20: room(" + one + ", " + what + ")", x.room(one, what), y.room(one, what));
            }
        }
        Check.due("20: a holiday", x.dayOf(2), -5);
        Check.due("20: no group 3", x.group(3, 1, 0), -1);
    }
}

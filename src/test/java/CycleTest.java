/** Promises 1 to 3, 30 and 31: a new object, the cycle, holidays and dates. */
public final class CycleTest {
    public static void main(String[] args) {
        promise1();
        promise2();
        promise3();
        promise30();
        promise31();
        Check.end();
    }

    private static void promise1() {
        CycleTimetable x = new CycleTimetable();
        Check.due("1: days", x.count(0), 6);
        Check.due("1: periods", x.count(1), 5);
        for (int what = 2; what <= 10; what++) {
            Check.due("1: count(" + what + ")", x.count(what), 0);
        }
        Check.due("1: no group", x.groupAt(0, 0, 0), -1);
        Check.due("1: no teacher", x.teacher(0, 0), -1);
        Check.due("1: no room", x.room(0, 0), -1);
        Check.due("1: no course", x.course(0, 0), -1);
        Check.due("1: no history", x.undo(), -5);
        Check.due("1: no snapshot", x.restore(), -5);
        Check.due("1: no holiday", x.dayOf(0), 0);
    }

    private static void promise2() {
        CycleTimetable x = new CycleTimetable();
        int[][] bad = {{1, 5}, {9, 5}, {6, 1}, {6, 7}, {-1, 2}, {2, Integer.MAX_VALUE}, {Integer.MIN_VALUE, 2}};
        for (int[] b : bad) {
            Check.due("2: setCycle(" + b[0] + ", " + b[1] + ")", x.setCycle(b[0], b[1]), -2);
        }
        Check.due("2: as it is", x.setCycle(6, 5), -5);
        Check.due("2: nothing recorded", x.count(9), 0);
        Check.due("2: least", x.setCycle(2, 2), 4);
        Check.due("2: most", x.setCycle(8, 6), 48);
        Check.due("2: days", x.count(0), 8);
        Check.due("2: periods", x.count(1), 6);
        Check.due("2: other days alone", x.setCycle(5, 6), 30);
        Check.due("2: other periods alone", x.setCycle(5, 3), 15);
        Check.due("2: an act", x.count(9), 4);
        x.addTeacher(9, 3);
        x.bar(0, 1, true);
        x.bar(0, 14, true);
        Check.due("2: as it is", x.setCycle(5, 3), -5);
        Check.due("2: still barred", x.teacher(0, 4), 2);
        Check.due("2: another", x.setCycle(3, 5), 15);
        Check.due("2: not barred", x.teacher(0, 4), 0);
        Check.due("2: undo", x.undo(), 3);
        Check.due("2: barred again", x.teacher(0, 4), 2);
        Check.due("2: days again", x.count(0), 5);
        x.addGroup();
        x.addRoom(0);
        x.addCourse(0, 0, 0, 0, 1);
        Check.due("2: lesson", x.place(0, 0, 0), 1);
        Check.due("2: a lesson is placed", x.setCycle(4, 4), -4);
        Check.due("2: a lesson, and as it is", x.setCycle(5, 3), -4);
        Check.due("2: bad before not possible", x.setCycle(9, 3), -2);
        Check.due("2: slot of the old cycle", x.bar(0, 15, true), -1);
        x.takeAway(0, 0);
        Check.due("2: lesson taken away", x.setCycle(4, 4), 16);
    }

    private static void promise3() {
        CycleTimetable x = new CycleTimetable();
        Check.due("3: holiday(-1)", x.holiday(-1, true), -2);
        Check.due("3: holiday(400)", x.holiday(400, true), -2);
        Check.due("3: holiday(MIN)", x.holiday(Integer.MIN_VALUE, false), -2);
        Check.due("3: none", x.holiday(0, false), -5);
        Check.due("3: nothing recorded", x.count(9), 0);
        int[] dates = {0, 399, 63, 64, 65, 128, 31, 32};
        for (int i = 0; i < dates.length; i++) {
            Check.due("3: holiday(" + dates[i] + ")", x.holiday(dates[i], true), i + 1);
        }
        Check.due("3: again", x.holiday(63, true), -5);
        Check.due("3: no more", x.holiday(63, false), 7);
        Check.due("3: still no more", x.holiday(63, false), -5);
        Check.due("3: an act", x.undo(), 3);
        Check.due("3: count", x.count(8), 8);
        CycleTimetable all = new CycleTimetable();
        for (int date = 0; date < 400; date++) {
            Check.due("3: all holidays", all.holiday(date, true), date + 1);
        }
    }

    private static void promise30() {
        CycleTimetable x = new CycleTimetable();
        Check.due("30: dayOf(-1)", x.dayOf(-1), -2);
        Check.due("30: dayOf(400)", x.dayOf(400), -2);
        Check.due("30: dayOf(0)", x.dayOf(0), 0);
        Check.due("30: dayOf(5)", x.dayOf(5), 5);
        Check.due("30: dayOf(6)", x.dayOf(6), 0);
        Check.due("30: dayOf(399)", x.dayOf(399), 3);
        x.holiday(6, true);
        Check.due("30: a holiday", x.dayOf(6), -5);
        Check.due("30: before it", x.dayOf(5), 5);
        Check.due("30: behind it", x.dayOf(7), 0);
        Check.due("30: last", x.dayOf(399), 2);
        x.setCycle(4, 2);
        Check.due("30: another cycle", x.dayOf(399), 2);
        Check.due("30: another cycle", x.dayOf(8), 3);
        x.holiday(0, true);
        Check.due("30: first date free", x.dayOf(1), 0);
    }

    private static void promise31() {
        CycleTimetable x = new CycleTimetable();
        Check.due("31: date -1", x.nextDate(-1, 0), -2);
        Check.due("31: date 400", x.nextDate(400, 0), -2);
        Check.due("31: day -1", x.nextDate(0, -1), -2);
        Check.due("31: day 6", x.nextDate(0, 6), -2);
        Check.due("31: this one", x.nextDate(0, 0), 0);
        Check.due("31: day 5", x.nextDate(0, 5), 5);
        Check.due("31: a cycle on", x.nextDate(4, 3), 9);
        Check.due("31: the last date", x.nextDate(399, 3), 399);
        Check.due("31: none", x.nextDate(399, 4), -5);
        Check.due("31: none left", x.nextDate(397, 0), -5);
        x.holiday(9, true);
        Check.due("31: over a holiday", x.nextDate(4, 3), 10);
        Check.due("31: from a holiday", x.nextDate(9, 3), 10);
        x.setCycle(2, 2);
        Check.due("31: day of a smaller cycle", x.nextDate(0, 2), -2);
        Check.due("31: smaller cycle", x.nextDate(10, 0), 11);
    }
}

import java.util.function.ToIntFunction;

/** Boundary cases of promises 1 to 3, 30 and 31. */
public final class CycleBoundsTest {
    public static void main(String[] args) {
        newObjectHasThirtySlots();
        newObjectHasNothingElse();
        newObjectKnowsNobody();
        newObjectHasNoHoliday();
        newObjectsShareNothing();
        daysAndPeriodsThatAreTaken();
        daysThatAreRefused();
        periodsThatAreRefused();
        badValueBeforeNotPossible();
        slotsEndWithTheCycle();
        daysEndWithTheirPeriods();
        noTeacherIsBarredThen();
        barredSlotsDoNotComeBack();
        asManySlotsIsAnotherCycle();
        cycleWithLessonsIsRefused();
        cycleAsItIs();
        cycleLeavesTheRest();
        datesOfHolidays();
        holidaysThatAreRefused();
        holidayAsItIs();
        allDatesAreHolidays();
        holidaysEndAgain();
        datesOfDays();
        daysGoRound();
        holidaysHaveNoDay();
        daysShiftByHolidays();
        daysBehindHolidaysAlone();
        nextDatesThatAreRefused();
        thisDateIsTheNext();
        nextDateGoesRound();
        nextDateEndsAt399();
        nextDateOverHolidays();
        nextDateWithoutAnOpenDate();
        Check.end();
    }

    private static void refused(String call, int answer, ToIntFunction<CycleTimetable> called) {
        Refused.due(call, Schools::busy, called, answer);
    }

    // ---- promise 1

    private static void newObjectHasThirtySlots() {
        CycleTimetable x = new CycleTimetable();
        Check.due("1: days", x.count(0), 6);
        Check.due("1: periods", x.count(1), 5);
        x.addTeacher(1, 1);
        Check.due("1: the first slot", x.bar(0, 0, true), 1);
        Check.due("1: the last slot", x.bar(0, 29, true), 2);
        Check.due("1: no slot before", x.bar(0, -1, true), -1);
        Check.due("1: no slot behind", x.bar(0, 30, true), -1);
    }

    private static void newObjectHasNothingElse() {
        CycleTimetable x = new CycleTimetable();
        for (int what = 2; what <= 10; what++) {
            Check.due("1: count(" + what + ")", x.count(what), 0);
        }
        Check.due("1: the history is empty", x.undo(), -5);
        Check.due("1: the snapshot is empty", x.restore(), -5);
        Check.due("1: the text is empty", x.readPlacings(), -100);
        Check.due("1: the text is empty", x.clearText(), 0);
        Check.due("1: no lesson", x.keep(), 0);
    }

    private static void newObjectKnowsNobody() {
        CycleTimetable x = new CycleTimetable();
        Check.due("1: group", x.group(0, 1, 0), -1);
        Check.due("1: groupAt", x.groupAt(0, 0, 0), -1);
        Check.due("1: teacher", x.teacher(0, 0), -1);
        Check.due("1: teacherAt", x.teacherAt(0, 0), -1);
        Check.due("1: room", x.room(0, 0), -1);
        Check.due("1: roomAt", x.roomAt(0, 0), -1);
        Check.due("1: course", x.course(0, 0), -1);
        Check.due("1: lessonAt", x.lessonAt(0, 0), -1);
        Check.due("1: reason", x.reason(0, 0, 0), -1);
        Check.due("1: addCourse", x.addCourse(0, 0, 0, 0, 1), -1);
        Check.due("1: join", x.join(0, 0), -1);
        Check.due("1: bar", x.bar(0, 0, true), -1);
        Check.due("1: place", x.place(0, 0, 0), -1);
        Check.due("1: takeAway", x.takeAway(0, 0), -1);
        Check.due("1: move", x.move(0, 0, 0, 0), -1);
        Check.due("1: swap", x.swap(0, 0, 0, 0), -1);
        Check.due("1: fill", x.fill(0), -1);
        Check.due("1: nothing is recorded", x.count(9), 0);
    }

    private static void newObjectHasNoHoliday() {
        CycleTimetable x = new CycleTimetable();
        for (int date = 0; date <= 399; date++) {
            Check.due("1: dayOf(" + date + ")", x.dayOf(date), date % 6);
        }
    }

    private static void newObjectsShareNothing() {
        CycleTimetable other = Schools.full();
        Check.due("1: a lesson of another object", other.place(0, 0, 0), 1);
        newObjectHasNothingElse();
        newObjectKnowsNobody();
        newObjectHasThirtySlots();
        Check.due("1: the other object stays", other.count(5), 20);
        Check.due("1: the other object stays", other.count(10), 60);
    }

    // ---- promise 2

    private static void daysAndPeriodsThatAreTaken() {
        for (int days = 2; days <= 8; days++) {
            for (int periods = 2; periods <= 6; periods++) {
                CycleTimetable x = new CycleTimetable();
                String call = "2: setCycle(" + days + ", " + periods + ")";
                boolean isThere = days == 6 && periods == 5;
                Check.due(call, x.setCycle(days, periods), isThere ? -5 : days * periods);
                Check.due(call + ", days", x.count(0), days);
                Check.due(call + ", periods", x.count(1), periods);
                Check.due(call + ", states", x.count(9), isThere ? 0 : 1);
            }
        }
    }

    private static void daysThatAreRefused() {
        for (int days : Check.outside(2, 8)) {
            Refused.due("2: " + days + " days", Schools::full, x -> x.setCycle(days, 6), -2);
            Refused.due("2: " + days + " days", Schools::full, x -> x.setCycle(days, 2), -2);
        }
    }

    private static void periodsThatAreRefused() {
        for (int periods : Check.outside(2, 6)) {
            Refused.due("2: " + periods + " periods", Schools::full, x -> x.setCycle(8, periods), -2);
            Refused.due("2: " + periods + " periods", Schools::full, x -> x.setCycle(2, periods), -2);
        }
    }

    private static void badValueBeforeNotPossible() {
        refused("2: a lesson, and 9 days", -2, x -> x.setCycle(9, 3));
        refused("2: a lesson, and 1 day", -2, x -> x.setCycle(1, 3));
        refused("2: a lesson, and 7 periods", -2, x -> x.setCycle(3, 7));
        refused("2: a lesson, and 1 period", -2, x -> x.setCycle(3, 1));
    }

    private static void slotsEndWithTheCycle() {
        for (int days = 2; days <= 8; days++) {
            for (int periods = 2; periods <= 6; periods++) {
                CycleTimetable x = Schools.single(days, periods);
                int slots = days * periods;
                String cycle = "2: in " + days + " days of " + periods + " periods, ";
                Check.due(cycle + "the last slot", x.place(0, slots - 1, 0), 1);
                Check.due(cycle + "its lesson", x.lessonAt(0, 0), 10 * (slots - 1));
                Check.due(cycle + "no slot behind", x.place(0, slots, 0), -1);
                Check.due(cycle + "the first slot", x.place(0, 0, 0), 2);
                Check.due(cycle + "no slot before", x.place(0, -1, 0), -1);
            }
        }
    }

    /** The last period of a day and the first one of the next are on two days. */
    private static void daysEndWithTheirPeriods() {
        for (int days = 2; days <= 8; days++) {
            for (int periods = 3; periods <= 6; periods++) {
                CycleTimetable x = Schools.single(days, periods);
                String cycle = "2: in " + days + " days of " + periods + " periods, ";
                x.place(0, periods, 0);
                x.place(0, 2 * periods - 1, 0);
                Check.due(cycle + "the day before", x.reason(0, periods - 1, 0), 0);
                Check.due(cycle + "this day", x.reason(0, periods + 1, 0), 2);
                Check.due(cycle + "the day behind", x.reason(0, 2 * periods, 0), days > 2 ? 0 : -1);
            }
        }
    }

    private static void noTeacherIsBarredThen() {
        CycleTimetable x = Schools.full();
        for (int teacher = 0; teacher < 8; teacher++) {
            x.bar(teacher, 0, true);
            x.bar(teacher, 47 - teacher, true);
        }
        Check.due("2: setCycle(8, 5)", x.setCycle(8, 5), 40);
        for (int teacher = 0; teacher < 8; teacher++) {
            Check.due("2: teacher " + teacher + " is not barred", x.teacher(teacher, 4), 0);
            Check.due("2: no reason for teacher " + teacher, x.reason(teacher, 0, 0), 0);
        }
    }

    private static void barredSlotsDoNotComeBack() {
        CycleTimetable x = Schools.single(2, 2);
        x.bar(0, 3, true);
        x.setCycle(8, 6);
        x.bar(0, 47, true);
        x.setCycle(2, 2);
        Check.due("2: not barred in the first cycle", x.teacher(0, 4), 0);
        x.setCycle(8, 6);
        Check.due("2: not barred in the second cycle", x.reason(0, 47, 0), 0);
        Check.due("2: not barred in the second cycle", x.teacher(0, 4), 0);
    }

    private static void asManySlotsIsAnotherCycle() {
        CycleTimetable x = Schools.single(3, 4);
        x.bar(0, 11, true);
        Check.due("2: 12 slots, and 12 slots", x.setCycle(4, 3), 12);
        Check.due("2: days", x.count(0), 4);
        Check.due("2: periods", x.count(1), 3);
        Check.due("2: not barred", x.teacher(0, 4), 0);
        Check.due("2: undo", x.undo(), 3);
        Check.due("2: barred again", x.teacher(0, 4), 1);
    }

    private static void cycleWithLessonsIsRefused() {
        refused("2: three lessons are placed", -4, x -> x.setCycle(4, 3));
        refused("2: three lessons, and as it is", -4, x -> x.setCycle(3, 3));
        CycleTimetable x = Schools.single(2, 3);
        x.place(0, 5, 0);
        Check.due("2: one lesson is placed", x.setCycle(3, 3), -4);
        x.takeAway(0, 5);
        Check.due("2: no lesson is placed", x.setCycle(3, 3), 9);
    }

    private static void cycleAsItIs() {
        Refused.due("2: as it is", CycleBoundsTest::barred, x -> x.setCycle(8, 6), -5);
        Refused.due("2: as it is at first", CycleTimetable::new, x -> x.setCycle(6, 5), -5);
    }

    private static CycleTimetable barred() {
        CycleTimetable x = Schools.full();
        x.bar(0, 0, true);
        x.bar(7, 47, true);
        return x;
    }

    private static void cycleLeavesTheRest() {
        CycleTimetable x = Schools.busy();
        x.takeAway(0, 0);
        x.takeAway(1, 0);
        x.takeAway(2, 4);
        Check.due("2: setCycle(2, 2)", x.setCycle(2, 2), 4);
        int[] due = {2, 2, 3, 3, 3, 5, 0, 15, 1, 4, 5};
        for (int what = 0; what < due.length; what++) {
            Check.due("2: count(" + what + ") then", x.count(what), due[what]);
        }
        Check.due("2: still joined", x.course(3, 1), 0);
        Check.due("2: still a holiday", x.dayOf(2), -5);
        Check.due("2: the snapshot has its cycle", x.restore(), 1);
        Check.due("2: days of the snapshot", x.count(0), 3);
    }

    // ---- promise 3

    private static void datesOfHolidays() {
        CycleTimetable x = new CycleTimetable();
        Check.due("3: the first date", x.holiday(0, true), 1);
        Check.due("3: the last date", x.holiday(399, true), 2);
        Check.due("3: the first date is one", x.dayOf(0), -5);
        Check.due("3: the last date is one", x.dayOf(399), -5);
        Check.due("3: the second date is not", x.dayOf(1), 0);
        Check.due("3: the one before the last is not", x.dayOf(398), 1);
    }

    private static void holidaysThatAreRefused() {
        for (int date : Check.outside(0, 399)) {
            refused("3: holiday(" + date + ", true)", -2, x -> x.holiday(date, true));
            refused("3: holiday(" + date + ", false)", -2, x -> x.holiday(date, false));
        }
    }

    private static void holidayAsItIs() {
        refused("3: it is a holiday", -5, x -> x.holiday(2, true));
        refused("3: it is no holiday", -5, x -> x.holiday(3, false));
        refused("3: the last one is none", -5, x -> x.holiday(399, false));
    }

    private static void allDatesAreHolidays() {
        CycleTimetable x = new CycleTimetable();
        for (int date = 399; date >= 0; date--) {
            Check.due("3: holiday(" + date + ", true)", x.holiday(date, true), 400 - date);
        }
        Check.due("3: all of them", x.count(8), 400);
        Check.due("3: it is so already", x.holiday(0, true), -5);
        Check.due("3: one less", x.holiday(200, false), 399);
        Check.due("3: its day", x.dayOf(200), 0);
    }

    private static void holidaysEndAgain() {
        CycleTimetable x = new CycleTimetable();
        for (int date = 0; date < 200; date++) {
            x.holiday(2 * date, true);
        }
        for (int date = 0; date < 200; date++) {
            Check.due("3: no holiday any more", x.holiday(2 * date, false), 199 - date);
        }
        Check.due("3: none is left", x.count(8), 0);
        Check.due("3: it is so already", x.holiday(0, false), -5);
        Check.due("3: the last day", x.dayOf(399), 3);
    }

    // ---- promise 30

    private static void datesOfDays() {
        for (int date : Check.outside(0, 399)) {
            refused("30: dayOf(" + date + ")", -2, x -> x.dayOf(date));
        }
        CycleTimetable x = new CycleTimetable();
        Check.due("30: the first date", x.dayOf(0), 0);
        Check.due("30: the last date", x.dayOf(399), 3);
    }

    private static void daysGoRound() {
        for (int days = 2; days <= 8; days++) {
            CycleTimetable x = new CycleTimetable();
            x.setCycle(days, 2);
            String cycle = "30: of " + days + " days, ";
            Check.due(cycle + "the last one", x.dayOf(days - 1), days - 1);
            Check.due(cycle + "the first one again", x.dayOf(days), 0);
            Check.due(cycle + "the last one again", x.dayOf(2 * days - 1), days - 1);
            Check.due(cycle + "the last date", x.dayOf(399), 399 % days);
        }
    }

    private static void holidaysHaveNoDay() {
        refused("30: a holiday", -5, x -> x.dayOf(2));
        for (int date : new int[] {0, 5, 6, 31, 32, 63, 64, 399}) {
            CycleTimetable x = new CycleTimetable();
            x.holiday(date, true);
            Check.due("30: " + date + " is a holiday", x.dayOf(date), -5);
            if (date > 0) {
                Check.due("30: the date before " + date, x.dayOf(date - 1), (date - 1) % 6);
            }
            if (date < 399) {
                Check.due("30: the date behind " + date, x.dayOf(date + 1), date % 6);
            }
            x.holiday(date, false);
            Check.due("30: " + date + " is none any more", x.dayOf(date), date % 6);
        }
    }

    private static void daysShiftByHolidays() {
        CycleTimetable x = new CycleTimetable();
        for (int date = 0; date < 200; date++) {
            x.holiday(2 * date, true);
        }
        for (int date = 1; date < 400; date += 2) {
            Check.due("30: dayOf(" + date + ")", x.dayOf(date), date / 2 % 6);
        }
    }

    private static void daysBehindHolidaysAlone() {
        CycleTimetable x = new CycleTimetable();
        for (int date = 0; date < 399; date++) {
            x.holiday(date, true);
        }
        Check.due("30: the only date", x.dayOf(399), 0);
        Check.due("30: a holiday", x.dayOf(398), -5);
        Check.due("31: the only date", x.nextDate(0, 0), 399);
        Check.due("31: no other day", x.nextDate(0, 1), -5);
    }

    // ---- promise 31

    private static void nextDatesThatAreRefused() {
        for (int date : Check.outside(0, 399)) {
            refused("31: nextDate(" + date + ", 0)", -2, x -> x.nextDate(date, 0));
            refused("31: nextDate(" + date + ", 3)", -2, x -> x.nextDate(date, 3));
        }
        for (int day : Check.outside(0, 2)) {
            refused("31: nextDate(0, " + day + ")", -2, x -> x.nextDate(0, day));
            refused("31: nextDate(399, " + day + ")", -2, x -> x.nextDate(399, day));
        }
        for (int days = 2; days <= 8; days++) {
            CycleTimetable x = new CycleTimetable();
            x.setCycle(days, 2);
            Check.due("31: the last of " + days + " days", x.nextDate(0, days - 1), days - 1);
            Check.due("31: no day of " + days + " days", x.nextDate(0, days), -2);
        }
    }

    private static void thisDateIsTheNext() {
        CycleTimetable x = new CycleTimetable();
        for (int date = 0; date <= 399; date++) {
            Check.due("31: nextDate(" + date + ", its day)", x.nextDate(date, date % 6), date);
        }
    }

    private static void nextDateGoesRound() {
        for (int days = 2; days <= 8; days++) {
            CycleTimetable x = new CycleTimetable();
            x.setCycle(days, 2);
            String cycle = "31: of " + days + " days, ";
            Check.due(cycle + "the first one, from the last", x.nextDate(days - 1, 0), days);
            Check.due(cycle + "the first one, from the second", x.nextDate(1, 0), days);
            Check.due(cycle + "the last one, from the first", x.nextDate(days, days - 1), 2 * days - 1);
        }
    }

    private static void nextDateEndsAt399() {
        refused("31: the last date", 399, x -> x.nextDate(397, 2));
        refused("31: none up to 399", -5, x -> x.nextDate(399, 0));
        CycleTimetable x = new CycleTimetable();
        Check.due("31: the last date", x.nextDate(394, 3), 399);
        Check.due("31: the date before", x.nextDate(393, 2), 398);
        Check.due("31: the one behind the last", x.nextDate(395, 4), -5);
        Check.due("31: day 0 behind its last date", x.nextDate(397, 0), -5);
        for (int day = 0; day < 6; day++) {
            Check.due("31: nextDate(399, " + day + ")", x.nextDate(399, day), day == 3 ? 399 : -5);
        }
        x.holiday(0, true);
        Check.due("31: the last date shifts", x.nextDate(399, 2), 399);
        Check.due("31: its day was another", x.nextDate(399, 3), -5);
    }

    private static void nextDateOverHolidays() {
        CycleTimetable x = new CycleTimetable();
        for (int date = 4; date <= 20; date++) {
            x.holiday(date, true);
        }
        Check.due("31: from a holiday", x.nextDate(4, 4), 21);
        Check.due("31: from before holidays", x.nextDate(3, 4), 21);
        Check.due("31: before holidays", x.nextDate(3, 3), 3);
        Check.due("31: from the last holiday", x.nextDate(20, 5), 22);
        Check.due("31: round", x.nextDate(4, 3), 26);
    }

    private static void nextDateWithoutAnOpenDate() {
        CycleTimetable x = new CycleTimetable();
        x.holiday(399, true);
        Check.due("31: the last date is a holiday", x.nextDate(399, 3), -5);
        Check.due("31: the one before it is not", x.nextDate(393, 2), 398);
        Check.due("31: none behind it", x.nextDate(394, 3), -5);
        CycleTimetable y = new CycleTimetable();
        for (int date = 0; date <= 399; date++) {
            y.holiday(date, true);
        }
        for (int day = 0; day < 6; day++) {
            Check.due("31: all dates are holidays", y.nextDate(0, day), -5);
        }
        Check.due("31: a bad day all the same", y.nextDate(0, 6), -2);
    }
}

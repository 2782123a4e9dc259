import java.util.function.ToIntFunction;

/** Boundary cases of promise 21 and of the reasons that 'Terms' tells. */
public final class ReasonsBoundsTest {
    public static void main(String[] args) {
        coursesSlotsAndRoomsThereAre();
        eachReasonAlone();
        allLessonsArePlaced();
        twoLessonsOnTheDay();
        teacherIsBarredFromTheSlot();
        teacherHasALessonInTheSlot();
        mostLessonsOfADay();
        mostLessonsOfADayGoByDays();
        mostLessonsOfACycle();
        fortyLessonsOfACycle();
        differentHalves();
        joinedGroups();
        halvesOfAllGroups();
        roomIsTaken();
        allOfTheEquipment();
        earlierReasonsGoFirst();
        Check.end();
    }

    private static void refused(String call, ToIntFunction<CycleTimetable> called) {
        Refused.due(call, Schools::busy, called, -1);
    }

    private static void coursesSlotsAndRoomsThereAre() {
        for (int course : Check.outside(0, 4)) {
            refused("21: course " + course, x -> x.reason(course, 5, 0));
        }
        for (int slot : Check.outside(0, 8)) {
            refused("21: slot " + slot, x -> x.reason(0, slot, 0));
        }
        for (int room : Check.outside(0, 2)) {
            refused("21: room " + room, x -> x.reason(0, 5, room));
            refused("21: room " + room + ", and barred", x -> x.reason(0, 8, room));
        }
        CycleTimetable x = Schools.full();
        Check.due("21: the first ones", x.reason(0, 0, 0), 0);
        Check.due("21: the last ones", x.reason(19, 47, 5), 0);
        Check.due("21: no course 20", x.reason(20, 47, 5), -1);
        Check.due("21: no slot 48", x.reason(19, 48, 5), -1);
        Check.due("21: no room 6", x.reason(19, 47, 6), -1);
    }

    private static void eachReasonAlone() {
        for (int reason = 0; reason <= 9; reason++) {
            int asked = reason;
            Check.due("21: reason " + reason, Schools.against(reason).reason(0, 4, 0), reason);
            Refused.due("21: asking changes nothing", () -> Schools.against(asked), x -> x.reason(0, 4, 0), reason);
        }
    }

    /** One lesson less than all is not all. */
    private static void allLessonsArePlaced() {
        for (int lessons = 1; lessons <= 10; lessons++) {
            CycleTimetable x = Schools.single(8, 6);
            x.addCourse(0, 0, 0, 0, lessons);
            for (int placed = 0; placed < lessons; placed++) {
                int slot = placed % 8 * 6 + placed / 8;
                Check.due("21: " + placed + " of " + lessons, x.reason(1, slot, 0), 0);
                x.place(1, slot, 0);
            }
            Check.due("21: all " + lessons, x.reason(1, 47, 0), 1);
            x.takeAway(1, 0);
            Check.due("21: all but one of " + lessons, x.reason(1, 47, 0), 0);
        }
    }

    private static void twoLessonsOnTheDay() {
        for (int day = 0; day < 3; day++) {
            CycleTimetable x = Schools.single(3, 4);
            int first = 4 * day;
            Check.due("21: none on the day", x.reason(0, first + 1, 0), 0);
            x.place(0, first, 0);
            Check.due("21: one on the day", x.reason(0, first + 1, 0), 0);
            x.place(0, first + 3, 0);
            Check.due("21: two on the day", x.reason(0, first + 1, 0), 2);
            Check.due("21: two on the day", x.reason(0, first + 2, 0), 2);
            if (day > 0) {
                Check.due("21: the slot of the day before", x.reason(0, first - 1, 0), 0);
            }
            if (day < 2) {
                Check.due("21: the slot of the day behind", x.reason(0, first + 4, 0), 0);
            }
            x.addCourse(0, 0, 0, 0, 10);
            Check.due("21: another course", x.reason(1, first + 1, 0), 0);
        }
    }

    private static void teacherIsBarredFromTheSlot() {
        for (int slot : new int[] {0, 1, 46, 47}) {
            CycleTimetable x = Schools.full();
            x.bar(3, slot, true);
            Check.due("21: barred", x.reason(3, slot, 0), 3);
            Check.due("21: its other course", x.reason(11, slot, 0), 3);
            Check.due("21: another teacher", x.reason(4, slot, 0), 0);
            Check.due("21: another slot", x.reason(3, (slot + 1) % 48, 0), 0);
            Check.due("21: another slot", x.reason(3, (slot + 47) % 48, 0), 0);
            x.bar(3, slot, false);
            Check.due("21: not barred any more", x.reason(3, slot, 0), 0);
        }
    }

    private static void teacherHasALessonInTheSlot() {
        CycleTimetable x = Schools.against(4);
        Check.due("21: in this slot", x.reason(0, 4, 0), 4);
        Check.due("21: in this slot, another room", x.reason(0, 4, 2), 4);
        Check.due("21: the slot before", x.reason(0, 3, 1), 0);
        Check.due("21: the slot behind", x.reason(0, 5, 1), 0);
        Check.due("21: another teacher", x.reason(2, 4, 0), 0);
        x.takeAway(1, 4);
        Check.due("21: taken away", x.reason(0, 4, 0), 0);
    }

    /** Of six periods: with one lesson less than the most there is no reason. */
    private static void mostLessonsOfADay() {
        for (int most = 1; most <= 6; most++) {
            CycleTimetable x = Schools.single(2, 6);
            x.addTeacher(40, most);
            for (int i = 0; i < 4; i++) {
                x.addCourse(0, 0, 1, 0, 10);
            }
            for (int lesson = 0; lesson < most; lesson++) {
                Check.due("21: " + lesson + " of " + most, x.reason(1 + lesson / 2, 6 + lesson, 0), 0);
                x.place(1 + lesson / 2, 6 + lesson, 0);
            }
            if (most < 6) {
                Check.due("21: the most of a day", x.reason(4, 6 + most, 0), 5);
                Check.due("21: the last of the day", x.reason(4, 11, 0), 5);
            }
            Check.due("21: the last of the day before", x.reason(4, 5, 0), 0);
            x.takeAway(1, 6);
            Check.due("21: one less", x.reason(4, 6, 0), 0);
        }
    }

    private static void mostLessonsOfADayGoByDays() {
        CycleTimetable x = Schools.single(3, 2);
        x.addTeacher(40, 1);
        x.addCourse(0, 0, 1, 0, 10);
        x.addCourse(0, 0, 1, 0, 10);
        x.place(1, 3, 0);
        Check.due("21: this day", x.reason(2, 2, 0), 5);
        Check.due("21: the day before", x.reason(2, 1, 0), 0);
        Check.due("21: the day behind", x.reason(2, 4, 0), 0);
        Check.due("21: another teacher", x.reason(0, 2, 0), 0);
    }

    private static void mostLessonsOfACycle() {
        for (int most = 1; most <= 5; most++) {
            CycleTimetable x = Schools.single(6, 2);
            x.addTeacher(most, 6);
            x.addCourse(0, 0, 1, 0, 10);
            x.addCourse(0, 0, 1, 0, 10);
            for (int lesson = 0; lesson < most; lesson++) {
                Check.due("21: " + lesson + " of " + most, x.reason(1 + lesson % 2, 2 * lesson, 0), 0);
                x.place(1 + lesson % 2, 2 * lesson, 0);
            }
            Check.due("21: the most of a cycle", x.reason(1, 11, 0), 6);
            Check.due("21: the most of a cycle", x.reason(2, 11, 0), 6);
            Check.due("21: another teacher", x.reason(0, 11, 0), 0);
            x.takeAway(1, 0);
            Check.due("21: one less", x.reason(2, 11, 0), 0);
        }
    }

    private static void fortyLessonsOfACycle() {
        CycleTimetable x = Schools.single(8, 6);
        for (int i = 0; i < 5; i++) {
            x.addCourse(0, 0, 0, 0, 10);
        }
        for (int lesson = 0; lesson < 40; lesson++) {
            Check.due("21: lesson " + lesson, x.place(lesson % 5, lesson / 5 * 6 + lesson % 5, 0), lesson / 5 + 1);
        }
        Check.due("21: forty lessons", x.teacher(0, 2), 40);
        Check.due("21: the most of a cycle", x.reason(5, 5, 0), 6);
        Check.due("10: the most of a cycle", x.place(5, 5, 0), -4);
        Check.due("14: the most of a cycle", x.fill(5), -5);
        x.takeAway(0, 0);
        Check.due("21: thirty-nine lessons", x.reason(5, 5, 0), 0);
        Check.due("14: the fortieth", x.fill(5), 1);
    }

    /** Of one group, only the two different halves go together. */
    private static void differentHalves() {
        for (int there = 0; there <= 2; there++) {
            for (int asked = 0; asked <= 2; asked++) {
                CycleTimetable x = Schools.against(0);
                x.addCourse(2, there, 0, 0, 5);
                x.addCourse(2, asked, 1, 0, 5);
                x.addCourse(1, asked, 1, 0, 5);
                x.place(5, 4, 0);
                boolean together = there + asked == 3;
                Check.due("21: part " + asked + " with " + there, x.reason(6, 4, 1), together ? 0 : 7);
                Check.due("21: another slot", x.reason(6, 5, 1), 0);
                Check.due("21: another group", x.reason(7, 4, 1), 0);
            }
        }
    }

    /** A joined course is for both groups, whole. */
    private static void joinedGroups() {
        for (int part = 0; part <= 2; part++) {
            for (int group = 0; group < 4; group++) {
                CycleTimetable x = Schools.against(0);
                x.addGroup();
                x.addCourse(3, 0, 0, 0, 5);
                x.join(5, 1);
                x.addCourse(group, part, 1, 0, 5);
                boolean isBusy = group == 1 || group == 3;
                x.place(5, 4, 0);
                Check.due("21: part " + part + " of group " + group, x.reason(6, 4, 1), isBusy ? 7 : 0);
                x.takeAway(5, 4);
                x.place(6, 4, 0);
                Check.due("21: against part " + part + " of group " + group, x.reason(5, 4, 1), isBusy ? 7 : 0);
            }
        }
        CycleTimetable y = Schools.against(0);
        y.join(2, 2);
        y.join(1, 2);
        y.place(2, 4, 0);
        Check.due("21: both are joined with one group", y.reason(1, 4, 1), 7);
        Check.due("21: its group is joined", y.reason(4, 4, 1), 7);
    }

    /** Of all eight groups, each half is busy for itself. */
    private static void halvesOfAllGroups() {
        for (int group = 0; group < 8; group++) {
            for (int half = 1; half <= 2; half++) {
                halfOfAGroup(group, half);
            }
        }
    }

    private static void halfOfAGroup(int group, int half) {
        CycleTimetable x = eightGroups();
        x.addCourse(group, half, 0, 0, 5);
        x.addCourse(group, 3 - half, 1, 0, 5);
        x.addCourse(group, half, 1, 0, 5);
        x.addCourse(group, 0, 1, 0, 5);
        x.place(0, 7, 0);
        Check.due("21: the other half of group " + group, x.reason(1, 7, 1), 0);
        Check.due("21: half " + half + " of group " + group, x.reason(2, 7, 1), 7);
        Check.due("21: the whole group " + group, x.reason(3, 7, 1), 7);
        Check.due("28: this half of group " + group, x.group(group, half, 0), 1);
        Check.due("28: the other half of group " + group, x.group(group, 3 - half, 0), 0);
        for (int other = 0; other < 8; other++) {
            if (other != group) {
                x.addCourse(other, 0, 1, 0, 1);
                Check.due("21: group " + other, x.reason(x.count(5) - 1, 7, 1), 0);
                Check.due("28: group " + other, x.group(other, 1, 0) + x.group(other, 2, 0), 0);
            }
        }
    }

    private static CycleTimetable eightGroups() {
        CycleTimetable x = new CycleTimetable();
        for (int group = 0; group < 8; group++) {
            x.addGroup();
        }
        x.addTeacher(40, 6);
        x.addTeacher(40, 6);
        x.addRoom(0);
        x.addRoom(0);
        return x;
    }

    private static void roomIsTaken() {
        CycleTimetable x = Schools.full();
        x.place(0, 47, 5);
        Check.due("21: the room is taken", x.reason(1, 47, 5), 8);
        Check.due("21: another room", x.reason(1, 47, 4), 0);
        Check.due("21: the slot before", x.reason(1, 46, 5), 0);
        x.place(2, 0, 0);
        Check.due("21: the room is taken", x.reason(1, 0, 0), 8);
        Check.due("21: another room", x.reason(1, 0, 1), 0);
        Check.due("21: the slot behind", x.reason(1, 1, 0), 0);
        x.takeAway(0, 47);
        Check.due("21: the room is free", x.reason(1, 47, 5), 0);
    }

    private static void allOfTheEquipment() {
        for (int equipment = 0; equipment <= 15; equipment++) {
            CycleTimetable x = Schools.single(2, 2);
            x.addRoom(equipment);
            for (int needed = 0; needed <= 15; needed++) {
                x.addCourse(0, 0, 0, needed, 1);
                boolean isThere = (needed | equipment) == equipment;
                Check.due("21: " + needed + " of " + equipment, x.reason(1 + needed, 3, 1), isThere ? 0 : 9);
            }
        }
    }

    /** Of two reasons that stand at once the lower one is told. */
    private static void earlierReasonsGoFirst() {
        for (int first = 1; first <= 9; first++) {
            for (int second = first + 1; second <= 9; second++) {
                if (first != 3 || second != 4) {
                    CycleTimetable x = Schools.againstBoth(first, second);
                    Check.due("21: " + first + " before " + second, x.reason(0, 4, 0), first);
                }
            }
        }
    }
}

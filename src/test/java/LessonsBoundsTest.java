import java.util.function.Supplier;
import java.util.function.ToIntFunction;

/** Boundary cases of promises 10 to 14. */
public final class LessonsBoundsTest {
    public static void main(String[] args) {
        placesThereAre();
        placeUnknownBeforeNotPossible();
        placeAgainstAReason();
        placeUpToTenLessons();
        placeInAllRooms();
        takeAwayOfLessonsThereAre();
        takeAwayOfAnotherCourse();
        takeAwayDownToNone();
        takeAwayInTheCorners();
        moveOfCoursesAndSlotsThereAre();
        moveToSlotsAndRoomsThereAre();
        moveWithoutALesson();
        moveUnknownBeforeNotPossible();
        moveAgainstAReason();
        moveOnceItIsTakenAway();
        moveToWhereItIs();
        moveToAnotherRoomOrSlot();
        moveTellsTheRoom();
        swapOfCoursesAndSlotsThereAre();
        swapWithoutALesson();
        swapUnknownBeforeTheRest();
        swapAgainstAReason();
        swapOnceBothAreTakenAway();
        swapInTheirOwnRooms();
        swapInOneSlot();
        swapTellsTwoToTwelve();
        fillOfCoursesThereAre();
        fillWhereNoneCanBe();
        fillUpToTen();
        fillTheLastMissing();
        fillTwoADay();
        fillUpToTheMostOfADay();
        fillUpToTheMostOfACycle();
        fillTheLowestRoom();
        fillTheOnlyPlace();
        fillBetweenLessons();
        Check.end();
    }

    private static void refused(String call, int answer, ToIntFunction<CycleTimetable> called) {
        Refused.due(call, Schools::busy, called, answer);
    }

    // ---- promise 10

    private static void placesThereAre() {
        for (int course : Check.outside(0, 4)) {
            refused("10: course " + course, -1, x -> x.place(course, 5, 0));
        }
        for (int slot : Check.outside(0, 8)) {
            refused("10: slot " + slot, -1, x -> x.place(0, slot, 0));
        }
        for (int room : Check.outside(0, 2)) {
            refused("10: room " + room, -1, x -> x.place(0, 5, room));
        }
        CycleTimetable x = Schools.full();
        Check.due("10: the first ones", x.place(0, 0, 0), 1);
        Check.due("10: the last ones", x.place(19, 47, 5), 1);
        Check.due("10: the first lesson", x.roomAt(0, 0), 0);
        Check.due("10: the last lesson", x.roomAt(5, 47), 19);
        Check.due("10: no course 20", x.place(20, 46, 5), -1);
        Check.due("10: no slot 48", x.place(19, 48, 5), -1);
        Check.due("10: no room 6", x.place(19, 46, 6), -1);
    }

    private static void placeUnknownBeforeNotPossible() {
        refused("10: no room, and the slot is taken", -1, x -> x.place(0, 0, 3));
        refused("10: no room, and barred", -1, x -> x.place(0, 8, -1));
        refused("10: no slot, and the course has a lesson", -1, x -> x.place(0, 9, 0));
    }

    private static void placeAgainstAReason() {
        for (int i = 1; i <= 9; i++) {
            int reason = i;
            Check.due("10: the reason", Schools.against(reason).reason(0, 4, 0), reason);
            Refused.due("10: reason " + reason, () -> Schools.against(reason), x -> x.place(0, 4, 0), -4);
        }
        CycleTimetable x = Schools.against(0);
        Check.due("10: no reason", x.place(0, 4, 0), 1);
        Check.due("10: it is placed", x.roomAt(0, 4), 0);
    }

    private static void placeUpToTenLessons() {
        CycleTimetable x = Schools.single(8, 6);
        for (int i = 0; i < 10; i++) {
            Check.due("10: lesson " + i, x.place(0, 47 - 3 * i, 0), i + 1);
        }
        Check.due("10: no more than ten", x.place(0, 0, 0), -4);
        Check.due("10: ten are placed", x.course(0, 6), 10);
    }

    private static void placeInAllRooms() {
        CycleTimetable x = Schools.full();
        for (int room = 0; room < 6; room++) {
            Check.due("10: room " + room, x.place(room, 24, room), 1);
        }
        for (int room = 0; room < 6; room++) {
            Check.due("10: no room is free", x.place(6, 24, room), -4);
            Check.due("10: its course", x.roomAt(room, 24), room);
        }
        Check.due("10: the next slot is free", x.place(6, 25, 0), 1);
    }

    // ---- promise 11

    private static void takeAwayOfLessonsThereAre() {
        for (int course : Check.outside(0, 4)) {
            refused("11: course " + course, -1, x -> x.takeAway(course, 0));
        }
        for (int slot : Check.outside(0, 8)) {
            refused("11: slot " + slot, -1, x -> x.takeAway(0, slot));
        }
        refused("11: the slot behind its lesson", -1, x -> x.takeAway(0, 1));
        refused("11: the slot before its lesson", -1, x -> x.takeAway(2, 3));
        refused("11: a course without lessons", -1, x -> x.takeAway(3, 0));
    }

    private static void takeAwayOfAnotherCourse() {
        refused("11: the lesson of another course", -1, x -> x.takeAway(0, 4));
        CycleTimetable x = Schools.busy();
        Check.due("11: one of two lessons in the slot", x.takeAway(1, 0), 0);
        Check.due("11: the other one stays", x.roomAt(0, 0), 0);
        Check.due("11: this one does not", x.roomAt(1, 0), -5);
    }

    private static void takeAwayDownToNone() {
        CycleTimetable x = Schools.single(8, 6);
        x.fill(0);
        for (int left = 9; left >= 0; left--) {
            int slot = x.lessonAt(0, left / 2) / 10;
            Check.due("11: those that are left", x.takeAway(0, slot), left);
            Check.due("11: it is gone", x.takeAway(0, slot), -1);
        }
        Check.due("11: none is left", x.lessonAt(0, 0), -5);
        Check.due("11: none is placed", x.count(6), 0);
    }

    private static void takeAwayInTheCorners() {
        CycleTimetable x = Schools.full();
        x.place(0, 0, 0);
        x.place(19, 47, 5);
        Check.due("11: the last slot", x.takeAway(19, 47), 0);
        Check.due("11: the first slot", x.takeAway(0, 0), 0);
        Check.due("11: undo", x.undo(), 3);
        Check.due("11: the first lesson is back", x.lessonAt(0, 0), 0);
        Check.due("11: undo", x.undo(), 2);
        Check.due("11: the last lesson is back", x.lessonAt(19, 0), 475);
    }

    // ---- promise 12

    private static void moveOfCoursesAndSlotsThereAre() {
        for (int course : Check.outside(0, 4)) {
            refused("12: course " + course, -1, x -> x.move(course, 0, 5, 0));
        }
        for (int slot : Check.outside(0, 8)) {
            refused("12: slot " + slot, -1, x -> x.move(0, slot, 5, 0));
        }
    }

    private static void moveToSlotsAndRoomsThereAre() {
        for (int to : Check.outside(0, 8)) {
            refused("12: to slot " + to, -1, x -> x.move(0, 0, to, 0));
        }
        for (int room : Check.outside(0, 2)) {
            refused("12: to room " + room, -1, x -> x.move(0, 0, 5, room));
            refused("12: to room " + room + " of its slot", -1, x -> x.move(0, 0, 0, room));
        }
        CycleTimetable x = Schools.full();
        x.place(19, 1, 1);
        Check.due("12: to the last slot and room", x.move(19, 1, 47, 5), 1);
        Check.due("12: it is there", x.lessonAt(19, 0), 475);
        Check.due("12: to the first slot and room", x.move(19, 47, 0, 0), 5);
        Check.due("12: it is there", x.lessonAt(19, 0), 0);
        Check.due("12: one lesson", x.course(19, 6), 1);
    }

    private static void moveWithoutALesson() {
        refused("12: the slot behind its lesson", -1, x -> x.move(0, 1, 5, 0));
        refused("12: the lesson of another course", -1, x -> x.move(0, 4, 5, 0));
        refused("12: a course without lessons", -1, x -> x.move(3, 0, 5, 0));
        refused("12: no lesson, and to that slot", -1, x -> x.move(0, 5, 5, 0));
    }

    private static void moveUnknownBeforeNotPossible() {
        refused("12: no room, and barred", -1, x -> x.move(0, 0, 8, 3));
        refused("12: no lesson, and barred", -1, x -> x.move(0, 1, 8, 0));
    }

    private static void moveAgainstAReason() {
        for (int reason : new int[] {2, 3, 4, 5, 7, 8, 9}) {
            Supplier<CycleTimetable> made = () -> Schools.againstMove(reason, 1);
            Refused.due("12: reason " + reason, made, x -> x.move(0, 8, 4, 0), -4);
        }
        CycleTimetable x = Schools.againstMove(0, 1);
        Check.due("12: no reason", x.move(0, 8, 4, 0), 1);
        Check.due("12: it is there", x.lessonAt(0, 0), 40);
        Check.due("12: there is one", x.course(0, 6), 1);
    }

    /** What stands against one lesson more does not stand against this one. */
    private static void moveOnceItIsTakenAway() {
        CycleTimetable all = Schools.againstMove(1, 1);
        Check.due("12: all lessons are placed", all.reason(0, 4, 0), 1);
        Check.due("12: once one is taken away", all.move(0, 8, 4, 0), 1);
        CycleTimetable cycle = Schools.againstMove(6, 1);
        Check.due("12: the most of a cycle", cycle.reason(0, 4, 0), 6);
        Check.due("12: once one is taken away", cycle.move(0, 8, 4, 0), 1);
        CycleTimetable day = Schools.againstMove(5, 1);
        Check.due("12: the most of a day", day.reason(0, 7, 0), 5);
        Check.due("12: once one is taken away", day.move(0, 8, 7, 0), 1);
        CycleTimetable two = Schools.single(2, 3);
        two.place(0, 3, 0);
        two.place(0, 5, 0);
        Check.due("12: two on the day", two.reason(0, 4, 0), 2);
        Check.due("12: once one is taken away", two.move(0, 5, 4, 0), 0);
        Check.due("12: the day before", two.move(0, 3, 2, 0), 0);
        Check.due("12: the first one", two.lessonAt(0, 0), 20);
        Check.due("12: the second one", two.lessonAt(0, 1), 40);
    }

    private static void moveToWhereItIs() {
        refused("12: it is there", -5, x -> x.move(0, 0, 0, 0));
        refused("12: it is there", -5, x -> x.move(1, 0, 0, 1));
        refused("12: it is there", -5, x -> x.move(2, 4, 4, 2));
        Refused.due("12: it is there, and all are placed", () -> Schools.againstMove(1, 1), x -> x.move(0, 8, 8, 1), -5);
        Refused.due("12: it is there, at the most of a day", () -> Schools.againstMove(5, 1), x -> x.move(0, 8, 8, 1), -5);
    }

    private static void moveToAnotherRoomOrSlot() {
        CycleTimetable x = Schools.busy();
        Check.due("12: to another room of its slot", x.move(0, 0, 0, 2), 0);
        Check.due("12: it is there", x.lessonAt(0, 0), 2);
        Check.due("12: its room is free", x.roomAt(0, 0), -5);
        Check.due("12: to the same room of another slot", x.move(0, 0, 1, 2), 2);
        Check.due("12: it is there", x.lessonAt(0, 0), 12);
        refused("12: to a room of its slot that is taken", -4, y -> y.move(0, 0, 0, 1));
    }

    private static void moveTellsTheRoom() {
        CycleTimetable x = Schools.full();
        x.place(4, 10, 5);
        for (int room = 5; room > 0; room--) {
            Check.due("12: from room " + room, x.move(4, 10, 10, room - 1), room);
        }
        Check.due("12: from room 0", x.move(4, 10, 11, 0), 0);
    }

    // ---- promise 13

    private static void swapOfCoursesAndSlotsThereAre() {
        for (int course : Check.outside(0, 4)) {
            refused("13: course " + course, -1, x -> x.swap(course, 0, 2, 4));
            refused("13: other course " + course, -1, x -> x.swap(2, 4, course, 0));
        }
        for (int slot : Check.outside(0, 8)) {
            refused("13: slot " + slot, -1, x -> x.swap(0, slot, 2, 4));
            refused("13: other slot " + slot, -1, x -> x.swap(2, 4, 0, slot));
        }
        CycleTimetable x = Schools.full();
        x.place(0, 0, 0);
        x.place(19, 47, 5);
        Check.due("13: the first and the last ones", x.swap(0, 0, 19, 47), 2);
        Check.due("13: the first one", x.lessonAt(0, 0), 470);
        Check.due("13: the last one", x.lessonAt(19, 0), 5);
        Check.due("13: the last and the first ones", x.swap(19, 0, 0, 47), 2);
        Check.due("13: the first one", x.lessonAt(0, 0), 0);
        Check.due("13: the last one", x.lessonAt(19, 0), 475);
    }

    private static void swapWithoutALesson() {
        refused("13: the first has no lesson there", -1, x -> x.swap(0, 1, 2, 4));
        refused("13: the second has no lesson there", -1, x -> x.swap(0, 0, 2, 5));
        refused("13: the lessons of each other", -1, x -> x.swap(0, 4, 2, 0));
        refused("13: a course without lessons", -1, x -> x.swap(3, 0, 2, 4));
    }

    private static void swapUnknownBeforeTheRest() {
        refused("13: one slot, and the first has no lesson there", -1, x -> x.swap(0, 4, 2, 4));
        refused("13: one slot, and the second has no lesson there", -1, x -> x.swap(0, 0, 2, 0));
        refused("13: one slot, and no lesson there", -1, x -> x.swap(3, 5, 4, 5));
    }

    private static void swapAgainstAReason() {
        for (int reason : new int[] {2, 3, 4, 5, 7, 8}) {
            Supplier<CycleTimetable> made = () -> Schools.againstSwap(reason);
            Refused.due("13: reason " + reason + " against the first", made, x -> x.swap(0, 8, 4, 4), -4);
            Refused.due("13: reason " + reason + " against the second", made, x -> x.swap(4, 4, 0, 8), -4);
        }
        for (int reason : new int[] {0, 1, 6}) {
            CycleTimetable x = Schools.againstSwap(reason);
            Check.due("13: reason " + reason + " falls away", x.swap(0, 8, 4, 4), 2);
            Check.due("13: the first one", x.roomAt(0, 4), 0);
            Check.due("13: the second one", x.roomAt(2, 8), 4);
            Check.due("13: where the first one was", x.roomAt(0, 8), -5);
            Check.due("13: where the second one was", x.roomAt(2, 4), -5);
        }
    }

    /** Two lessons of one teacher, of one group, in one room, and of one day with the most of them. */
    private static void swapOnceBothAreTakenAway() {
        int[][] others = {{1, 0}, {2, 0}, {3, 0}, {1, 1}, {2, 1}};
        for (int[] other : others) {
            CycleTimetable x = Schools.against(0);
            x.place(0, 8, 0);
            x.place(other[0], 4, other[1]);
            Check.due("13: course 0 with " + other[0], x.swap(0, 8, other[0], 4), 2);
            Check.due("13: where it is", x.lessonAt(0, 0), 40);
            Check.due("13: where the other is", x.lessonAt(other[0], 0), 80 + other[1]);
        }
        CycleTimetable day = Schools.against(5);
        day.place(0, 8, 0);
        Check.due("13: two days with the most of them", day.swap(0, 8, 1, 3), 2);
        CycleTimetable two = Schools.single(2, 2);
        two.fill(0);
        Check.due("13: two on each day", two.swap(0, 0, 0, 3), 2);
        Check.due("13: on one day", two.swap(0, 0, 0, 1), 2);
    }

    private static void swapInTheirOwnRooms() {
        CycleTimetable x = Schools.against(0);
        x.place(0, 8, 0);
        x.place(4, 4, 2);
        x.place(3, 4, 1);
        Check.due("13: swap", x.swap(0, 8, 4, 4), 3);
        Check.due("13: the first keeps its room", x.lessonAt(0, 0), 40);
        Check.due("13: the second keeps its room", x.lessonAt(4, 0), 82);
        Check.due("13: the third stays", x.lessonAt(3, 0), 41);
        Refused.due("13: the room of the first is taken", LessonsBoundsTest::takenRoom, y -> y.swap(0, 8, 3, 4), -4);
        Refused.due("13: the room of the second is taken", LessonsBoundsTest::takenRoom, y -> y.swap(3, 4, 0, 8), -4);
        CycleTimetable free = takenRoom();
        free.move(4, 4, 5, 0);
        Check.due("13: the room is free", free.swap(0, 8, 3, 4), 2);
    }

    /** Course 0 is in room 0, and has to swap with course 3 in room 1; course 4 takes room 0 there. */
    private static CycleTimetable takenRoom() {
        CycleTimetable x = Schools.against(0);
        x.place(0, 8, 0);
        x.place(3, 4, 1);
        x.place(4, 4, 0);
        return x;
    }

    private static void swapInOneSlot() {
        refused("13: both slots are the same", -5, x -> x.swap(0, 0, 1, 0));
        refused("13: both slots are the same", -5, x -> x.swap(1, 0, 0, 0));
        refused("13: both slots and lessons are the same", -5, x -> x.swap(2, 4, 2, 4));
    }

    private static void swapTellsTwoToTwelve() {
        CycleTimetable x = Schools.full();
        x.place(4, 0, 4);
        x.place(6, 47, 4);
        Check.due("13: two lessons", x.swap(4, 0, 6, 47), 2);
        x.swap(4, 47, 6, 0);
        int lessons = 2;
        for (int room = 0; room < 6; room++) {
            if (room != 4) {
                x.place(room, 0, room);
                x.place(7 + (room + 1) % 6, 47, room);
                lessons += 2;
                Check.due("13: lessons in both slots", x.swap(4, 0, 6, 47), lessons);
                Check.due("13: back again", x.swap(4, 47, 6, 0), lessons);
            }
        }
        Check.due("13: twelve lessons", x.count(6), 12);
    }

    // ---- promise 14

    private static void fillOfCoursesThereAre() {
        for (int course : Check.outside(0, 4)) {
            refused("14: course " + course, -1, x -> x.fill(course));
        }
        CycleTimetable x = Schools.full();
        Check.due("14: the first course", x.fill(0), 10);
        Check.due("14: the last course", x.fill(19), 10);
    }

    private static void fillWhereNoneCanBe() {
        for (int i = 1; i <= 8; i++) {
            int reason = i;
            Refused.due("14: reason " + reason, () -> Schools.onlySlot4(reason), x -> x.fill(0), -5);
        }
        Refused.due("14: no room", LessonsBoundsTest::roomless, x -> x.fill(0), -5);
        Refused.due("14: no room with the equipment", LessonsBoundsTest::bare, x -> x.fill(1), -5);
        Check.due("14: no reason", Schools.onlySlot4(0).fill(0), 1);
    }

    private static CycleTimetable roomless() {
        CycleTimetable x = new CycleTimetable();
        x.addGroup();
        x.addTeacher(40, 6);
        x.addCourse(0, 0, 0, 0, 10);
        return x;
    }

    private static CycleTimetable bare() {
        CycleTimetable x = Schools.single(2, 2);
        x.addCourse(0, 0, 0, 8, 10);
        return x;
    }

    private static void fillUpToTen() {
        CycleTimetable x = Schools.single(8, 6);
        Check.due("14: ten", x.fill(0), 10);
        Check.due("14: ten are placed", x.course(0, 6), 10);
        for (int i = 0; i < 10; i++) {
            Check.due("14: lesson " + i, x.lessonAt(0, i), 10 * (i / 2 * 6 + i % 2));
        }
        Check.due("14: no lesson is missing", x.fill(0), -5);
        Check.due("14: one state", x.count(9), 4);
        Check.due("14: undo", x.undo(), 3);
        Check.due("14: none is placed", x.course(0, 6), 0);
    }

    private static void fillTheLastMissing() {
        CycleTimetable x = Schools.single(8, 6);
        for (int i = 0; i < 9; i++) {
            x.place(0, 47 - 3 * i, 0);
        }
        Check.due("14: the tenth", x.fill(0), 1);
        Check.due("14: it is in the lowest slot", x.lessonAt(0, 0), 0);
    }

    private static void fillTwoADay() {
        CycleTimetable x = Schools.single(2, 6);
        Check.due("14: two on each day", x.fill(0), 4);
        int[] slots = {0, 1, 6, 7};
        for (int i = 0; i < slots.length; i++) {
            Check.due("14: lesson " + i, x.lessonAt(0, i), 10 * slots[i]);
        }
        Check.due("14: no more", x.fill(0), -5);
    }

    private static void fillUpToTheMostOfADay() {
        CycleTimetable x = Schools.single(3, 3);
        x.addTeacher(40, 1);
        x.addCourse(0, 0, 1, 0, 10);
        Check.due("14: one on each day", x.fill(1), 3);
        for (int i = 0; i < 3; i++) {
            Check.due("14: lesson " + i, x.lessonAt(1, i), 30 * i);
        }
    }

    private static void fillUpToTheMostOfACycle() {
        for (int cycle = 1; cycle <= 10; cycle++) {
            CycleTimetable x = Schools.single(8, 2);
            x.addTeacher(cycle, 6);
            x.addCourse(0, 0, 1, 0, 10);
            Check.due("14: the most of a cycle", x.fill(1), cycle);
            Check.due("14: the lessons", x.course(1, 6), cycle);
        }
    }

    private static void fillTheLowestRoom() {
        CycleTimetable x = new CycleTimetable();
        x.setCycle(2, 2);
        x.addGroup();
        x.addGroup();
        x.addTeacher(40, 6);
        x.addTeacher(40, 6);
        for (int equipment : new int[] {7, 8, 9, 15, 8, 8}) {
            x.addRoom(equipment);
        }
        x.addCourse(0, 0, 0, 8, 10);
        x.addCourse(1, 0, 1, 0, 10);
        x.place(1, 0, 1);
        x.place(1, 1, 2);
        x.place(1, 2, 0);
        Check.due("14: four", x.fill(0), 4);
        int[] due = {2, 11, 21, 31};
        for (int i = 0; i < due.length; i++) {
            Check.due("14: lesson " + i, x.lessonAt(0, i), due[i]);
        }
    }

    private static void fillTheOnlyPlace() {
        for (int only : new int[] {0, 5, 6, 42, 47}) {
            CycleTimetable x = Schools.full();
            for (int slot = 0; slot < 48; slot++) {
                if (slot != only) {
                    x.bar(6, slot, true);
                }
            }
            for (int room = 0; room < 5; room++) {
                x.place(room, only, room);
            }
            Check.due("14: slot " + only + " and room 5 alone", x.fill(6), 1);
            Check.due("14: the lesson", x.lessonAt(6, 0), 10 * only + 5);
        }
    }

    private static void fillBetweenLessons() {
        CycleTimetable x = Schools.single(2, 3);
        x.place(0, 2, 0);
        x.place(0, 3, 0);
        Check.due("14: one more on each day", x.fill(0), 2);
        int[] slots = {0, 2, 3, 4};
        for (int i = 0; i < slots.length; i++) {
            Check.due("14: lesson " + i, x.lessonAt(0, i), 10 * slots[i]);
        }
    }
}

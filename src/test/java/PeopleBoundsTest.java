import java.util.function.ToIntFunction;

/** Boundary cases of promises 4 to 9. */
public final class PeopleBoundsTest {
    public static void main(String[] args) {
        groupsFrom0To7();
        noNinthGroup();
        groupAgainBehindUndo();
        teachersFrom0To7();
        mostLessonsOfTeachers();
        mostLessonsThatAreRefused();
        noNinthTeacher();
        roomsFrom0To5();
        equipmentOfRooms();
        equipmentOfRoomsThatIsRefused();
        noSeventhRoom();
        coursesFrom0To19();
        coursesOfGroupsThereAre();
        coursesOfTeachersThereAre();
        partsOfCourses();
        equipmentOfCourses();
        lessonsOfCourses();
        unknownBeforeTheRest();
        noTwentyFirstCourse();
        newCourseHasNothing();
        joinOfCoursesThereAre();
        joinWithGroupsThereAre();
        joinOfHalvesIsRefused();
        joinTwiceIsRefused();
        joinWithItsOwnGroupIsRefused();
        joinWithALessonIsRefused();
        joinUnknownBeforeNotPossible();
        joinTellsLessonsToPlace();
        joinOfTheLast();
        barOfTeachersThereAre();
        barOfSlotsThereAre();
        barWithALessonIsRefused();
        barOfTheSlotsAround();
        barAsItIs();
        barOfAllSlots();
        barIsUndone();
        Check.end();
    }

    private static void refused(String call, int answer, ToIntFunction<CycleTimetable> called) {
        Refused.due(call, Schools::busy, called, answer);
    }

    private static void refusedByFull(String call, int answer, ToIntFunction<CycleTimetable> called) {
        Refused.due(call, Schools::full, called, answer);
    }

    // ---- promise 4

    private static void groupsFrom0To7() {
        CycleTimetable x = new CycleTimetable();
        for (int group = 0; group < 8; group++) {
            Check.due("4: not there yet", x.group(group, 1, 0), -1);
            Check.due("4: addGroup()", x.addGroup(), group);
            Check.due("4: there now", x.group(group, 2, 2), 0);
            Check.due("4: count", x.count(2), group + 1);
        }
        Check.due("4: no eighth number", x.group(8, 1, 0), -1);
    }

    private static void noNinthGroup() {
        refusedByFull("4: there are 8", -3, CycleTimetable::addGroup);
    }

    private static void groupAgainBehindUndo() {
        CycleTimetable x = new CycleTimetable();
        for (int group = 0; group < 8; group++) {
            x.addGroup();
        }
        Check.due("4: full", x.addGroup(), -3);
        x.undo();
        Check.due("4: one can be added again", x.addGroup(), 7);
        Check.due("4: full again", x.addGroup(), -3);
    }

    // ---- promise 5

    private static void teachersFrom0To7() {
        CycleTimetable x = new CycleTimetable();
        for (int teacher = 0; teacher < 8; teacher++) {
            Check.due("5: not there yet", x.teacher(teacher, 0), -1);
            Check.due("5: addTeacher", x.addTeacher(33 + teacher, 1 + teacher % 6), teacher);
            Check.due("5: its cycle", x.teacher(teacher, 0), 33 + teacher);
            Check.due("5: its day", x.teacher(teacher, 1), 1 + teacher % 6);
            Check.due("5: not barred", x.teacher(teacher, 4), 0);
            Check.due("5: count", x.count(3), teacher + 1);
        }
        Check.due("5: no eighth number", x.teacher(8, 0), -1);
    }

    private static void mostLessonsOfTeachers() {
        int[][] taken = {{1, 1}, {1, 6}, {40, 1}, {40, 6}, {1, 3}, {40, 3}, {20, 1}, {20, 6}};
        CycleTimetable x = new CycleTimetable();
        for (int i = 0; i < taken.length; i++) {
            Check.due("5: taken", x.addTeacher(taken[i][0], taken[i][1]), i);
            Check.due("5: its cycle", x.teacher(i, 0), taken[i][0]);
            Check.due("5: its day", x.teacher(i, 1), taken[i][1]);
        }
    }

    private static void mostLessonsThatAreRefused() {
        for (int cycle : Check.outside(1, 40)) {
            refused("5: addTeacher(" + cycle + ", 1)", -2, x -> x.addTeacher(cycle, 1));
            refused("5: addTeacher(" + cycle + ", 6)", -2, x -> x.addTeacher(cycle, 6));
            refusedByFull("5: full, and addTeacher(" + cycle + ", 6)", -2, x -> x.addTeacher(cycle, 6));
        }
        for (int day : Check.outside(1, 6)) {
            refused("5: addTeacher(1, " + day + ")", -2, x -> x.addTeacher(1, day));
            refused("5: addTeacher(40, " + day + ")", -2, x -> x.addTeacher(40, day));
            refusedByFull("5: full, and addTeacher(40, " + day + ")", -2, x -> x.addTeacher(40, day));
        }
    }

    private static void noNinthTeacher() {
        refusedByFull("5: there are 8", -3, x -> x.addTeacher(1, 1));
        refusedByFull("5: there are 8", -3, x -> x.addTeacher(40, 6));
        CycleTimetable x = new CycleTimetable();
        for (int teacher = 0; teacher < 8; teacher++) {
            x.addTeacher(1, 1);
        }
        x.undo();
        Check.due("5: one can be added again", x.addTeacher(40, 6), 7);
        Check.due("5: it is the new one", x.teacher(7, 0), 40);
    }

    // ---- promise 6

    private static void roomsFrom0To5() {
        CycleTimetable x = new CycleTimetable();
        for (int room = 0; room < 6; room++) {
            Check.due("6: not there yet", x.room(room, 0), -1);
            Check.due("6: addRoom", x.addRoom(15 - room), room);
            Check.due("6: its equipment", x.room(room, 0), 15 - room);
            Check.due("6: count", x.count(4), room + 1);
        }
        Check.due("6: no sixth number", x.room(6, 0), -1);
    }

    private static void equipmentOfRooms() {
        for (int equipment = 0; equipment <= 15; equipment++) {
            CycleTimetable x = new CycleTimetable();
            Check.due("6: addRoom(" + equipment + ")", x.addRoom(equipment), 0);
            Check.due("6: its equipment", x.room(0, 0), equipment);
        }
    }

    private static void equipmentOfRoomsThatIsRefused() {
        for (int equipment : Check.outside(0, 15)) {
            refused("6: addRoom(" + equipment + ")", -2, x -> x.addRoom(equipment));
            refusedByFull("6: full, and addRoom(" + equipment + ")", -2, x -> x.addRoom(equipment));
        }
    }

    private static void noSeventhRoom() {
        refusedByFull("6: there are 6", -3, x -> x.addRoom(0));
        refusedByFull("6: there are 6", -3, x -> x.addRoom(15));
        CycleTimetable x = new CycleTimetable();
        for (int room = 0; room < 6; room++) {
            x.addRoom(0);
        }
        x.undo();
        Check.due("6: one can be added again", x.addRoom(9), 5);
        Check.due("6: it is the new one", x.room(5, 0), 9);
    }

    // ---- promise 7

    private static void coursesFrom0To19() {
        CycleTimetable x = new CycleTimetable();
        for (int i = 0; i < 8; i++) {
            x.addGroup();
            x.addTeacher(40, 6);
        }
        for (int course = 0; course < 20; course++) {
            Check.due("7: not there yet", x.course(course, 0), -1);
            Check.due("7: addCourse", x.addCourse(course % 8, course % 3, 7 - course % 8, course % 16, 1 + course % 10), course);
            Check.due("7: its group", x.course(course, 0), course % 8);
            Check.due("7: its part", x.course(course, 2), course % 3);
            Check.due("7: its teacher", x.course(course, 3), 7 - course % 8);
            Check.due("7: its equipment", x.course(course, 4), course % 16);
            Check.due("7: its lessons", x.course(course, 5), 1 + course % 10);
            Check.due("7: count", x.count(5), course + 1);
        }
        Check.due("7: no twentieth number", x.course(20, 0), -1);
    }

    private static void coursesOfGroupsThereAre() {
        for (int group : Check.outside(0, 2)) {
            refused("7: group " + group, -1, x -> x.addCourse(group, 0, 0, 0, 1));
        }
        CycleTimetable x = Schools.busy();
        Check.due("7: the first group", x.addCourse(0, 0, 0, 0, 1), 5);
        Check.due("7: the last group", x.addCourse(2, 0, 0, 0, 1), 6);
    }

    private static void coursesOfTeachersThereAre() {
        for (int teacher : Check.outside(0, 2)) {
            refused("7: teacher " + teacher, -1, x -> x.addCourse(0, 0, teacher, 0, 1));
        }
        CycleTimetable x = Schools.busy();
        Check.due("7: the first teacher", x.addCourse(0, 0, 0, 0, 1), 5);
        Check.due("7: the last teacher", x.addCourse(0, 0, 2, 0, 1), 6);
    }

    private static void partsOfCourses() {
        for (int part : Check.outside(0, 2)) {
            refused("7: part " + part, -2, x -> x.addCourse(0, part, 0, 0, 1));
        }
        CycleTimetable x = Schools.busy();
        for (int part = 0; part <= 2; part++) {
            Check.due("7: part " + part, x.addCourse(0, part, 0, 0, 1), 5 + part);
            Check.due("7: its part", x.course(5 + part, 2), part);
        }
    }

    private static void equipmentOfCourses() {
        for (int equipment : Check.outside(0, 15)) {
            refused("7: equipment " + equipment, -2, x -> x.addCourse(0, 0, 0, equipment, 1));
        }
        CycleTimetable x = Schools.busy();
        Check.due("7: no equipment", x.addCourse(0, 0, 0, 0, 1), 5);
        Check.due("7: all equipment", x.addCourse(0, 0, 0, 15, 1), 6);
        Check.due("7: its equipment", x.course(5, 4), 0);
        Check.due("7: its equipment", x.course(6, 4), 15);
    }

    private static void lessonsOfCourses() {
        for (int lessons : Check.outside(1, 10)) {
            refused("7: " + lessons + " lessons", -2, x -> x.addCourse(0, 0, 0, 0, lessons));
        }
        CycleTimetable x = Schools.busy();
        Check.due("7: one lesson", x.addCourse(0, 0, 0, 0, 1), 5);
        Check.due("7: ten lessons", x.addCourse(0, 0, 0, 0, 10), 6);
        Check.due("7: its lessons", x.course(5, 5), 1);
        Check.due("7: its lessons", x.course(6, 5), 10);
    }

    private static void unknownBeforeTheRest() {
        refused("7: no group, and bad part", -1, x -> x.addCourse(3, 3, 0, 0, 1));
        refused("7: no group, and bad equipment", -1, x -> x.addCourse(-1, 0, 0, 16, 1));
        refused("7: no teacher, and bad part", -1, x -> x.addCourse(0, -1, 3, 0, 1));
        refused("7: no teacher, and bad lessons", -1, x -> x.addCourse(0, 0, -1, 0, 0));
        refusedByFull("7: no group, and full", -1, x -> x.addCourse(8, 0, 0, 0, 1));
        refusedByFull("7: no teacher, and full", -1, x -> x.addCourse(0, 0, 8, 0, 1));
        refusedByFull("7: bad part, and full", -2, x -> x.addCourse(0, 3, 0, 0, 1));
        refusedByFull("7: bad equipment, and full", -2, x -> x.addCourse(0, 0, 0, 16, 1));
        refusedByFull("7: bad lessons, and full", -2, x -> x.addCourse(0, 0, 0, 0, 11));
    }

    private static void noTwentyFirstCourse() {
        refusedByFull("7: there are 20", -3, x -> x.addCourse(0, 0, 0, 0, 1));
        refusedByFull("7: there are 20", -3, x -> x.addCourse(7, 2, 7, 15, 10));
        CycleTimetable x = Schools.full();
        x.undo();
        Check.due("7: one can be added again", x.addCourse(1, 0, 2, 3, 4), 19);
        Check.due("7: it is the new one", x.course(19, 4), 3);
        Check.due("7: full again", x.addCourse(1, 0, 2, 3, 4), -3);
    }

    /** Also one whose number was joined, and had a lesson, before undo. */
    private static void newCourseHasNothing() {
        CycleTimetable x = Schools.busy();
        x.addCourse(0, 0, 2, 0, 3);
        x.join(5, 1);
        x.place(5, 8, 0);
        x.undo();
        x.undo();
        x.undo();
        Check.due("7: addCourse", x.addCourse(2, 0, 2, 0, 10), 5);
        Check.due("7: it is not joined", x.course(5, 1), -5);
        Check.due("7: it has no lesson", x.course(5, 6), 0);
        Check.due("7: it has no first lesson", x.lessonAt(5, 0), -5);
        Check.due("7: its lessons", x.course(5, 5), 10);
        Check.due("7: group 1 is not in it", x.group(1, 2, 2), 2);
    }

    // ---- promise 8

    private static void joinOfCoursesThereAre() {
        for (int course : Check.outside(0, 4)) {
            refused("8: join(" + course + ", 0)", -1, x -> x.join(course, 0));
        }
        CycleTimetable x = Schools.busy();
        x.takeAway(0, 0);
        Check.due("8: the first course", x.join(0, 1), 3);
        Check.due("8: the last course", x.join(4, 0), 1);
    }

    private static void joinWithGroupsThereAre() {
        for (int group : Check.outside(0, 2)) {
            refused("8: join(4, " + group + ")", -1, x -> x.join(4, group));
        }
        CycleTimetable x = Schools.busy();
        Check.due("8: the first group", x.join(4, 0), 1);
        Check.due("8: it is joined", x.course(4, 1), 0);
        x.undo();
        Check.due("8: the last group", x.join(4, 2), 1);
        Check.due("8: it is joined", x.course(4, 1), 2);
    }

    private static void joinOfHalvesIsRefused() {
        Refused.due("8: half 1", PeopleBoundsTest::halves, x -> x.join(1, 0), -4);
        Refused.due("8: half 2", PeopleBoundsTest::halves, x -> x.join(2, 0), -4);
        CycleTimetable x = halves();
        Check.due("8: whole", x.join(0, 1), 10);
    }

    private static CycleTimetable halves() {
        CycleTimetable x = Schools.single(2, 2);
        x.addGroup();
        x.addCourse(1, 1, 0, 0, 2);
        x.addCourse(1, 2, 0, 0, 2);
        return x;
    }

    private static void joinTwiceIsRefused() {
        refused("8: joined already, with another", -4, x -> x.join(3, 1));
        refused("8: joined already, with the same", -4, x -> x.join(3, 0));
        refused("8: joined already, with its own", -4, x -> x.join(3, 2));
    }

    private static void joinWithItsOwnGroupIsRefused() {
        refused("8: its own group", -4, x -> x.join(4, 1));
        CycleTimetable x = Schools.busy();
        x.addCourse(0, 0, 0, 0, 7);
        Check.due("8: its own group, the first", x.join(5, 0), -4);
        Check.due("8: another one", x.join(5, 1), 7);
    }

    private static void joinWithALessonIsRefused() {
        refused("8: a lesson is placed", -4, x -> x.join(0, 1));
        CycleTimetable x = Schools.busy();
        x.takeAway(0, 0);
        Check.due("8: no lesson is placed", x.join(0, 1), 3);
    }

    private static void joinUnknownBeforeNotPossible() {
        refused("8: no group, and a half", -1, x -> x.join(1, 3));
        refused("8: no group, and joined", -1, x -> x.join(3, 3));
        refused("8: no group, and a lesson", -1, x -> x.join(0, -1));
    }

    private static void joinTellsLessonsToPlace() {
        for (int lessons = 1; lessons <= 10; lessons++) {
            CycleTimetable x = Schools.busy();
            x.addCourse(0, 0, 0, 0, lessons);
            Check.due("8: " + lessons + " lessons are to be placed", x.join(5, 2), lessons);
        }
    }

    private static void joinOfTheLast() {
        CycleTimetable x = Schools.full();
        Check.due("8: course 18 with group 7", x.join(18, 7), 10);
        Check.due("8: its lesson", x.place(18, 47, 5), 1);
        Check.due("8: half 1 of group 7", x.groupAt(7, 1, 47), 18);
        Check.due("8: half 2 of group 7", x.groupAt(7, 2, 47), 18);
        Check.due("8: group 2", x.groupAt(2, 0, 47), 18);
    }

    // ---- promise 9

    private static void barOfTeachersThereAre() {
        for (int teacher : Check.outside(0, 2)) {
            refused("9: bar(" + teacher + ", 1, true)", -1, x -> x.bar(teacher, 1, true));
            refused("9: bar(" + teacher + ", 8, false)", -1, x -> x.bar(teacher, 8, false));
        }
        CycleTimetable x = Schools.busy();
        Check.due("9: the first teacher", x.bar(0, 1, true), 2);
        Check.due("9: the last teacher", x.bar(2, 1, true), 1);
    }

    private static void barOfSlotsThereAre() {
        for (int slot : Check.outside(0, 8)) {
            refused("9: bar(0, " + slot + ", true)", -1, x -> x.bar(0, slot, true));
            refused("9: bar(0, " + slot + ", false)", -1, x -> x.bar(0, slot, false));
        }
        CycleTimetable x = Schools.busy();
        Check.due("9: the first slot", x.bar(2, 0, true), 1);
        Check.due("9: the last slot", x.bar(2, 8, true), 2);
    }

    private static void barWithALessonIsRefused() {
        refused("9: a lesson in the slot", -4, x -> x.bar(0, 0, true));
        refused("9: a lesson in the slot", -4, x -> x.bar(1, 0, true));
        refused("9: a lesson in the slot", -4, x -> x.bar(2, 4, true));
        refused("9: a lesson, and as it is", -5, x -> x.bar(0, 0, false));
        CycleTimetable x = Schools.busy();
        x.takeAway(0, 0);
        Check.due("9: no lesson in the slot", x.bar(0, 0, true), 2);
        Check.due("9: and none can be placed", x.reason(0, 0, 0), 3);
    }

    private static void barOfTheSlotsAround() {
        CycleTimetable x = Schools.busy();
        Check.due("9: the slot before the lesson", x.bar(2, 3, true), 1);
        Check.due("9: the slot behind the lesson", x.bar(2, 5, true), 2);
        Check.due("9: another teacher", x.bar(0, 4, true), 2);
        Check.due("9: the lesson of another", x.reason(4, 0, 2), 7);
        Check.due("9: it stays", x.teacherAt(2, 4), 2);
    }

    private static void barAsItIs() {
        refused("9: it is barred", -5, x -> x.bar(0, 8, true));
        refused("9: it is not barred", -5, x -> x.bar(0, 7, false));
        refused("9: another is barred", -5, x -> x.bar(1, 8, false));
    }

    private static void barOfAllSlots() {
        CycleTimetable x = Schools.single(8, 6);
        for (int slot = 47; slot >= 0; slot--) {
            Check.due("9: bar(0, " + slot + ", true)", x.bar(0, slot, true), 48 - slot);
        }
        Check.due("9: all of them", x.teacher(0, 4), 48);
        Check.due("9: no lesson can be placed", x.fill(0), -5);
        for (int slot = 0; slot < 48; slot++) {
            Check.due("9: bar(0, " + slot + ", false)", x.bar(0, slot, false), 47 - slot);
        }
        Check.due("9: none is left", x.teacher(0, 4), 0);
        Check.due("9: lessons can be placed", x.fill(0), 10);
    }

    private static void barIsUndone() {
        CycleTimetable x = Schools.busy();
        Check.due("9: bar", x.bar(2, 0, true), 1);
        Check.due("9: no bar", x.bar(0, 8, false), 0);
        Check.due("9: four states", x.count(9), 4);
        x.undo();
        Check.due("9: barred again", x.reason(0, 8, 0), 3);
        x.undo();
        Check.due("9: not barred any more", x.reason(2, 0, 2), 0);
        x.undo();
        Check.due("9: the lesson before it", x.count(6), 2);
    }
}

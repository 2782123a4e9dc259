import java.util.function.ToIntFunction;

/** Boundary cases of promises 22 to 29 and 32. */
public final class AnswersBoundsTest {
    public static void main(String[] args) {
        coursesThereAre();
        whatIsAskedOfCourses();
        courseWithoutAnotherGroup();
        placesOfACourse();
        noPlaceOfACourse();
        lessonsOfCoursesThereAre();
        placeAmongLessons();
        lessonsBySlots();
        lessonsInTheCorners();
        groupsAndSlotsThereAre();
        partsOfGroups();
        unknownBeforeBadPart();
        lowestCourseOfAGroup();
        noCourseOfAGroup();
        roomsAndSlotsThereAre();
        slotsOfARoom();
        teachersAndSlotsThereAre();
        slotsOfATeacher();
        teachersThereAre();
        whatIsAskedOfTeachers();
        teacherWithoutAnything();
        teacherWithTheMost();
        dayWithTheMostLessons();
        windowsOfATeacher();
        windowsGoByDays();
        groupsThereAre();
        halvesOfGroups();
        whatIsAskedOfGroups();
        windowsOfAHalf();
        lessonsToPlaceOfAHalf();
        roomsThereAre();
        whatIsAskedOfRooms();
        takenSlotsOfARoom();
        whatIsCounted();
        countsOfTheEmpty();
        countsOfTheFull();
        Check.end();
    }

    private static void due(String call, int answer, ToIntFunction<CycleTimetable> asked) {
        Refused.due(call, Schools::busy, asked, answer);
    }

    // ---- promise 22

    private static void coursesThereAre() {
        for (int course : Check.outside(0, 4)) {
            for (int what : new int[] {-1, 0, 1, 7, 8}) {
                due("22: course(" + course + ", " + what + ")", -1, x -> x.course(course, what));
            }
        }
        due("22: the first course", 3, x -> x.course(0, 5));
        due("22: the last course", 1, x -> x.course(4, 5));
        Check.due("22: course 19", Schools.full().course(19, 0), 3);
        Check.due("22: no course 20", Schools.full().course(20, 0), -1);
    }

    private static void whatIsAskedOfCourses() {
        for (int what : Check.outside(0, 7)) {
            due("22: course(0, " + what + ")", -2, x -> x.course(0, what));
            due("22: course(4, " + what + ")", -2, x -> x.course(4, what));
        }
        int[][] all = {{0, -5, 0, 0, 0, 3, 1}, {1, -5, 1, 1, 1, 4, 1}, {1, -5, 2, 2, 0, 2, 1}, {2, 0, 0, 1, 2, 5, 0}};
        for (int course = 0; course < all.length; course++) {
            for (int what = 0; what <= 6; what++) {
                int asked = course;
                int number = what;
                due("22: course(" + course + ", " + what + ")", all[course][what], x -> x.course(asked, number));
            }
        }
    }

    private static void courseWithoutAnotherGroup() {
        due("22: it is not joined", -5, x -> x.course(4, 1));
        due("22: joined with group 0", 0, x -> x.course(3, 1));
        CycleTimetable x = Schools.full();
        x.join(0, 7);
        Check.due("22: joined with group 7", x.course(0, 1), 7);
    }

    private static void placesOfACourse() {
        for (int rooms = 1; rooms <= 6; rooms++) {
            for (int periods = 2; periods <= 6; periods++) {
                CycleTimetable x = Schools.single(8, periods);
                for (int room = 1; room < rooms; room++) {
                    x.addRoom(room);
                }
                Check.due("22: all slots and rooms", x.course(0, 7), 8 * periods * rooms);
                x.place(0, 0, 0);
                Check.due("22: all but one slot", x.course(0, 7), (8 * periods - 1) * rooms);
                x.place(0, 1, rooms - 1);
                Check.due("22: all but one day", x.course(0, 7), 7 * periods * rooms);
                x.bar(0, 8 * periods - 1, true);
                Check.due("22: without the last slot", x.course(0, 7), (7 * periods - 1) * rooms);
            }
        }
        CycleTimetable y = Schools.full();
        Check.due("22: the most", y.course(0, 7), 288);
        y.place(1, 5, 5);
        Check.due("22: all but a room that is taken", y.course(0, 7), 287);
    }

    private static void noPlaceOfACourse() {
        CycleTimetable x = new CycleTimetable();
        x.addGroup();
        x.addTeacher(40, 6);
        x.addCourse(0, 0, 0, 0, 10);
        Check.due("22: no room", x.course(0, 7), 0);
        x.addRoom(0);
        Check.due("22: a room", x.course(0, 7), 30);
        for (int i = 1; i <= 8; i++) {
            Check.due("22: reason " + i, Schools.onlySlot4(i).course(0, 7), 0);
        }
        Check.due("22: one slot, and three rooms", Schools.onlySlot4(0).course(0, 7), 3);
        Check.due("22: one slot, and two rooms", Schools.onlySlot4(9).course(0, 7), 2);
        CycleTimetable y = Schools.single(8, 6);
        y.fill(0);
        Check.due("22: all are placed", y.course(0, 7), 0);
        y.takeAway(0, 0);
        Check.due("22: one is missing", y.course(0, 7), 48 - 4 * 6 - 1);
    }

    // ---- promise 23

    private static void lessonsOfCoursesThereAre() {
        for (int course : Check.outside(0, 4)) {
            due("23: lessonAt(" + course + ", 0)", -1, x -> x.lessonAt(course, 0));
            due("23: lessonAt(" + course + ", -1)", -1, x -> x.lessonAt(course, -1));
        }
    }

    private static void placeAmongLessons() {
        for (int place : new int[] {-1, -2, Integer.MIN_VALUE}) {
            due("23: lessonAt(0, " + place + ")", -2, x -> x.lessonAt(0, place));
            due("23: lessonAt(3, " + place + ")", -2, x -> x.lessonAt(3, place));
        }
        for (int place : new int[] {1, 2, 10, Integer.MAX_VALUE}) {
            due("23: lessonAt(0, " + place + ")", -5, x -> x.lessonAt(0, place));
        }
        due("23: the only one", 0, x -> x.lessonAt(0, 0));
        due("23: none is placed", -5, x -> x.lessonAt(3, 0));
        due("23: none is placed", -5, x -> x.lessonAt(3, Integer.MAX_VALUE));
        CycleTimetable x = Schools.single(8, 6);
        x.fill(0);
        Check.due("23: the first of ten", x.lessonAt(0, 0), 0);
        Check.due("23: the tenth", x.lessonAt(0, 9), 250);
        Check.due("23: no eleventh", x.lessonAt(0, 10), -5);
    }

    /** They are told by their slots, however they were placed. */
    private static void lessonsBySlots() {
        CycleTimetable x = Schools.full();
        int[] slots = {47, 0, 13, 6, 12, 46};
        for (int i = 0; i < slots.length; i++) {
            x.place(3, slots[i], 5 - i);
        }
        int[] due = {4, 62, 121, 133, 460, 475};
        for (int place = 0; place < due.length; place++) {
            Check.due("23: lessonAt(3, " + place + ")", x.lessonAt(3, place), due[place]);
        }
        x.takeAway(3, 12);
        Check.due("23: the next one moves up", x.lessonAt(3, 2), 133);
        Check.due("23: no sixth one", x.lessonAt(3, 5), -5);
    }

    private static void lessonsInTheCorners() {
        CycleTimetable x = Schools.full();
        x.place(19, 0, 5);
        x.place(19, 47, 0);
        x.place(18, 0, 0);
        x.place(18, 47, 5);
        Check.due("23: the first slot and the last room", x.lessonAt(19, 0), 5);
        Check.due("23: the last slot and the first room", x.lessonAt(19, 1), 470);
        Check.due("23: the first slot and room", x.lessonAt(18, 0), 0);
        Check.due("23: the last slot and room", x.lessonAt(18, 1), 475);
    }

    // ---- promise 24

    private static void groupsAndSlotsThereAre() {
        for (int group : Check.outside(0, 2)) {
            due("24: groupAt(" + group + ", 0, 0)", -1, x -> x.groupAt(group, 0, 0));
        }
        for (int slot : Check.outside(0, 8)) {
            due("24: groupAt(0, 0, " + slot + ")", -1, x -> x.groupAt(0, 0, slot));
            due("24: groupAt(2, 2, " + slot + ")", -1, x -> x.groupAt(2, 2, slot));
        }
        CycleTimetable x = Schools.full();
        x.place(15, 47, 0);
        x.place(0, 0, 0);
        Check.due("24: the last group and slot", x.groupAt(7, 0, 47), 15);
        Check.due("24: the first group and slot", x.groupAt(0, 0, 0), 0);
        Check.due("24: no group 8", x.groupAt(8, 0, 47), -1);
        Check.due("24: no slot 48", x.groupAt(7, 0, 48), -1);
    }

    private static void partsOfGroups() {
        for (int part : Check.outside(0, 2)) {
            due("24: groupAt(0, " + part + ", 0)", -2, x -> x.groupAt(0, part, 0));
            due("24: groupAt(2, " + part + ", 8)", -2, x -> x.groupAt(2, part, 8));
        }
        int[][] halves = {{1, 1, -5}, {2, -5, 2}, {0, 0, 0}};
        for (int part = 0; part <= 2; part++) {
            int asked = part;
            due("24: half 1", halves[0][part], x -> x.groupAt(1, asked, 0));
            due("24: half 2", halves[1][part], x -> x.groupAt(1, asked, 4));
            due("24: the whole group", halves[2][part], x -> x.groupAt(0, asked, 0));
        }
    }

    private static void unknownBeforeBadPart() {
        due("24: no group, and bad part", -1, x -> x.groupAt(3, 3, 0));
        due("24: no slot, and bad part", -1, x -> x.groupAt(0, -1, 9));
    }

    private static void lowestCourseOfAGroup() {
        CycleTimetable x = Schools.busy();
        x.takeAway(2, 4);
        x.place(2, 0, 2);
        Check.due("24: the lowest of two", x.groupAt(1, 0, 0), 1);
        Check.due("24: half 1", x.groupAt(1, 1, 0), 1);
        Check.due("24: half 2", x.groupAt(1, 2, 0), 2);
        x.takeAway(1, 0);
        Check.due("24: the other one", x.groupAt(1, 0, 0), 2);
        Check.due("24: nobody", x.groupAt(1, 1, 0), -5);
        x.place(3, 7, 1);
        for (int part = 0; part <= 2; part++) {
            Check.due("24: the group", x.groupAt(2, part, 7), 3);
            Check.due("24: the joined group", x.groupAt(0, part, 7), 3);
            Check.due("24: another group", x.groupAt(1, part, 7), -5);
        }
    }

    private static void noCourseOfAGroup() {
        for (int part = 0; part <= 2; part++) {
            int asked = part;
            due("24: no lesson in the slot", -5, x -> x.groupAt(0, asked, 1));
            due("24: the lesson of another group", -5, x -> x.groupAt(2, asked, 0));
        }
    }

    // ---- promises 25 and 26

    private static void roomsAndSlotsThereAre() {
        for (int room : Check.outside(0, 2)) {
            due("25: roomAt(" + room + ", 0)", -1, x -> x.roomAt(room, 0));
        }
        for (int slot : Check.outside(0, 8)) {
            due("25: roomAt(0, " + slot + ")", -1, x -> x.roomAt(0, slot));
            due("25: roomAt(2, " + slot + ")", -1, x -> x.roomAt(2, slot));
        }
        Check.due("25: no room 6", Schools.full().roomAt(6, 0), -1);
        Check.due("25: no slot 48", Schools.full().roomAt(0, 48), -1);
    }

    private static void slotsOfARoom() {
        due("25: its course", 0, x -> x.roomAt(0, 0));
        due("25: its course", 1, x -> x.roomAt(1, 0));
        due("25: its course", 2, x -> x.roomAt(2, 4));
        due("25: none", -5, x -> x.roomAt(2, 0));
        due("25: none", -5, x -> x.roomAt(2, 8));
        CycleTimetable x = Schools.full();
        x.place(19, 47, 5);
        Check.due("25: the last one", x.roomAt(5, 47), 19);
        Check.due("25: the slot before", x.roomAt(5, 46), -5);
        Check.due("25: the room before", x.roomAt(4, 47), -5);
        x.takeAway(19, 47);
        Check.due("25: taken away", x.roomAt(5, 47), -5);
    }

    private static void teachersAndSlotsThereAre() {
        for (int teacher : Check.outside(0, 2)) {
            due("26: teacherAt(" + teacher + ", 0)", -1, x -> x.teacherAt(teacher, 0));
        }
        for (int slot : Check.outside(0, 8)) {
            due("26: teacherAt(0, " + slot + ")", -1, x -> x.teacherAt(0, slot));
            due("26: teacherAt(2, " + slot + ")", -1, x -> x.teacherAt(2, slot));
        }
        Check.due("26: no teacher 8", Schools.full().teacherAt(8, 0), -1);
        Check.due("26: no slot 48", Schools.full().teacherAt(0, 48), -1);
    }

    private static void slotsOfATeacher() {
        due("26: its course", 0, x -> x.teacherAt(0, 0));
        due("26: its course", 1, x -> x.teacherAt(1, 0));
        due("26: its course", 2, x -> x.teacherAt(2, 4));
        due("26: none", -5, x -> x.teacherAt(2, 0));
        due("26: barred, and none", -5, x -> x.teacherAt(0, 8));
        CycleTimetable x = Schools.full();
        x.place(15, 47, 5);
        Check.due("26: the last one", x.teacherAt(7, 47), 15);
        Check.due("26: the slot before", x.teacherAt(7, 46), -5);
        Check.due("26: the teacher before", x.teacherAt(6, 47), -5);
        x.takeAway(15, 47);
        Check.due("26: taken away", x.teacherAt(7, 47), -5);
    }

    // ---- promise 27

    private static void teachersThereAre() {
        for (int teacher : Check.outside(0, 2)) {
            for (int what : new int[] {-1, 0, 7, 8}) {
                due("27: teacher(" + teacher + ", " + what + ")", -1, x -> x.teacher(teacher, what));
            }
        }
        Check.due("27: teacher 7", Schools.full().teacher(7, 0), 40);
        Check.due("27: no teacher 8", Schools.full().teacher(8, 0), -1);
    }

    private static void whatIsAskedOfTeachers() {
        for (int what : Check.outside(0, 7)) {
            due("27: teacher(0, " + what + ")", -2, x -> x.teacher(0, what));
            due("27: teacher(2, " + what + ")", -2, x -> x.teacher(2, what));
        }
        int[][] all = {{4, 2, 1, 1, 1, 1, 0, 3}, {9, 3, 1, 2, 0, 1, 0, 9}, {9, 3, 1, 2, 0, 1, 0, 3}};
        for (int teacher = 0; teacher < 3; teacher++) {
            for (int what = 0; what <= 7; what++) {
                int asked = teacher;
                int number = what;
                due("27: teacher(" + teacher + ", " + what + ")", all[teacher][what], x -> x.teacher(asked, number));
            }
        }
    }

    private static void teacherWithoutAnything() {
        CycleTimetable x = new CycleTimetable();
        x.addTeacher(1, 6);
        int[] due = {1, 6, 0, 0, 0, 0, 0, 0};
        for (int what = 0; what <= 7; what++) {
            Check.due("27: teacher(0, " + what + ") of a new one", x.teacher(0, what), due[what]);
        }
    }

    private static void teacherWithTheMost() {
        CycleTimetable x = Schools.single(8, 6);
        for (int course = 1; course < 20; course++) {
            x.addCourse(0, 0, 0, 0, 10);
            Check.due("27: courses", x.teacher(0, 3), course + 1);
            Check.due("27: lessons of all courses", x.teacher(0, 7), 10 * course + 10);
        }
        for (int course = 0; course < 5; course++) {
            x.fill(course);
        }
        Check.due("27: lessons that are placed", x.teacher(0, 2), 40);
        Check.due("27: on the day with the most", x.teacher(0, 5), 6);
        Check.due("27: no window", x.teacher(0, 6), 0);
        Check.due("27: slots", x.count(6), 40);
    }

    private static void dayWithTheMostLessons() {
        for (int day = 0; day < 8; day++) {
            CycleTimetable x = Schools.single(8, 6);
            x.addCourse(0, 0, 0, 0, 10);
            x.place(0, 6 * ((day + 1) % 8), 0);
            Check.due("27: one on a day", x.teacher(0, 5), 1);
            x.place(0, 6 * day + 5, 0);
            Check.due("27: one on each of two days", x.teacher(0, 5), 1);
            x.place(0, 6 * day, 0);
            Check.due("27: two on a day", x.teacher(0, 5), 2);
            x.place(1, 6 * day + 1, 0);
            Check.due("27: three on a day", x.teacher(0, 5), 3);
            x.takeAway(0, 6 * day);
            Check.due("27: two again", x.teacher(0, 5), 2);
        }
    }

    /** All sets of lessons on a day of six periods. */
    private static void windowsOfATeacher() {
        for (int set = 0; set < 64; set++) {
            CycleTimetable x = Schools.single(2, 6);
            x.addCourse(0, 0, 0, 0, 10);
            x.addCourse(0, 0, 0, 0, 10);
            int lessons = 0;
            for (int period = 0; period < 6; period++) {
                if ((set >> period & 1) == 1) {
                    x.place(lessons / 2, 6 + period, 0);
                    lessons++;
                }
            }
            int windows = windows(set);
            Check.due("27: windows of " + set, x.teacher(0, 6), windows);
            Check.due("28: windows of " + set, x.group(0, 1, 1), windows);
            Check.due("28: windows of " + set, x.group(0, 2, 1), windows);
            Check.due("27: lessons of " + set, x.teacher(0, 5), lessons);
        }
    }

    private static int windows(int set) {
        if (set == 0) {
            return 0;
        }
        int span = 32 - Integer.numberOfLeadingZeros(set) - Integer.numberOfTrailingZeros(set);
        return span - Integer.bitCount(set);
    }

    /** The last period of a day and the first one of the day behind have none between them. */
    private static void windowsGoByDays() {
        CycleTimetable x = Schools.single(3, 3);
        x.place(0, 0, 0);
        x.place(0, 4, 0);
        x.place(0, 8, 0);
        Check.due("27: one lesson a day", x.teacher(0, 6), 0);
        Check.due("28: one lesson a day", x.group(0, 1, 1), 0);
        x.place(0, 2, 0);
        Check.due("27: one window", x.teacher(0, 6), 1);
        x.place(0, 6, 0);
        Check.due("27: one on each of two days", x.teacher(0, 6), 2);
        Check.due("28: one on each of two days", x.group(0, 2, 1), 2);
        x.addGroup();
        x.addCourse(1, 0, 0, 0, 10);
        x.place(1, 1, 0);
        Check.due("27: another course is no window", x.teacher(0, 6), 1);
        Check.due("28: another group's is one", x.group(0, 2, 1), 2);
    }

    // ---- promise 28

    private static void groupsThereAre() {
        for (int group : Check.outside(0, 2)) {
            due("28: group(" + group + ", 1, 0)", -1, x -> x.group(group, 1, 0));
            due("28: group(" + group + ", 0, 0)", -1, x -> x.group(group, 0, 0));
            due("28: group(" + group + ", 1, 3)", -1, x -> x.group(group, 1, 3));
        }
        Check.due("28: group 7", Schools.full().group(7, 1, 0), 0);
        Check.due("28: no group 8", Schools.full().group(8, 1, 0), -1);
    }

    private static void halvesOfGroups() {
        for (int half : Check.outside(1, 2)) {
            for (int what = 0; what <= 3; what++) {
                int asked = what;
                due("28: group(0, " + half + ", " + what + ")", -2, x -> x.group(0, half, asked));
            }
        }
    }

    private static void whatIsAskedOfGroups() {
        for (int what : Check.outside(0, 2)) {
            due("28: group(0, 1, " + what + ")", -2, x -> x.group(0, 1, what));
            due("28: group(2, 2, " + what + ")", -2, x -> x.group(2, 2, what));
        }
        int[][] all = {{1, 0, 7}, {1, 0, 7}, {1, 0, 4}, {1, 0, 2}, {0, 0, 5}, {0, 0, 5}};
        for (int row = 0; row < all.length; row++) {
            for (int what = 0; what <= 2; what++) {
                int group = row / 2;
                int half = 1 + row % 2;
                int asked = what;
                due("28: group(" + group + ", " + half + ", " + what + ")", all[row][what], x -> x.group(group, half, asked));
            }
        }
    }

    private static void windowsOfAHalf() {
        CycleTimetable x = Schools.busy();
        x.place(2, 2, 2);
        x.place(1, 2, 1);
        Check.due("28: half 1", x.group(1, 1, 1), 1);
        Check.due("28: half 2 has one lesson on the day", x.group(1, 2, 1), 0);
        x.place(4, 3, 2);
        Check.due("28: half 1", x.group(1, 1, 0), 3);
        Check.due("28: half 2", x.group(1, 2, 0), 3);
        Check.due("28: no window from day to day", x.group(1, 2, 1), 0);
        x.takeAway(1, 0);
        Check.due("28: none any more", x.group(1, 1, 1), 0);
    }

    private static void lessonsToPlaceOfAHalf() {
        CycleTimetable x = new CycleTimetable();
        x.addGroup();
        x.addGroup();
        x.addTeacher(40, 6);
        x.addRoom(0);
        toPlace(x, 0, 0, 0, 0);
        x.addCourse(0, 1, 0, 0, 1);
        toPlace(x, 1, 0, 0, 0);
        x.addCourse(0, 2, 0, 0, 2);
        toPlace(x, 1, 2, 0, 0);
        x.addCourse(0, 0, 0, 0, 4);
        toPlace(x, 5, 6, 0, 0);
        x.join(2, 1);
        toPlace(x, 5, 6, 4, 4);
        x.fill(0);
        toPlace(x, 4, 6, 4, 4);
        x.fill(2);
        toPlace(x, 0, 2, 0, 0);
        x.fill(1);
        toPlace(x, 0, 0, 0, 0);
        x.takeAway(2, x.lessonAt(2, 0) / 10);
        toPlace(x, 1, 1, 1, 1);
    }

    private static void toPlace(CycleTimetable x, int... due) {
        for (int i = 0; i < due.length; i++) {
            Check.due("28: group(" + i / 2 + ", " + (1 + i % 2) + ", 2)", x.group(i / 2, 1 + i % 2, 2), due[i]);
        }
    }

    // ---- promise 29

    private static void roomsThereAre() {
        for (int room : Check.outside(0, 2)) {
            for (int what : new int[] {-1, 0, 1, 2}) {
                due("29: room(" + room + ", " + what + ")", -1, x -> x.room(room, what));
            }
        }
        Check.due("29: room 5", Schools.full().room(5, 0), 15);
        Check.due("29: no room 6", Schools.full().room(6, 0), -1);
    }

    private static void whatIsAskedOfRooms() {
        for (int what : Check.outside(0, 1)) {
            due("29: room(0, " + what + ")", -2, x -> x.room(0, what));
            due("29: room(2, " + what + ")", -2, x -> x.room(2, what));
        }
        int[] equipment = {1, 15, 0};
        for (int room = 0; room < 3; room++) {
            int asked = room;
            due("29: its equipment", equipment[room], x -> x.room(asked, 0));
            due("29: its slots", 1, x -> x.room(asked, 1));
        }
    }

    private static void takenSlotsOfARoom() {
        CycleTimetable x = Schools.single(2, 6);
        for (int course = 1; course < 6; course++) {
            x.addCourse(0, 0, 0, 0, 10);
        }
        Check.due("29: none", x.room(0, 1), 0);
        for (int slot = 0; slot < 12; slot++) {
            x.place(slot % 6 / 2, slot, 0);
            Check.due("29: taken", x.room(0, 1), slot + 1);
        }
        Check.due("29: all slots are taken", x.reason(4, 11, 0), 4);
        x.takeAway(2, 11);
        Check.due("29: all but one", x.room(0, 1), 11);
    }

    // ---- promise 32

    private static void whatIsCounted() {
        for (int what : Check.outside(0, 10)) {
            due("32: count(" + what + ")", -2, x -> x.count(what));
        }
        int[] all = {3, 3, 3, 3, 3, 5, 3, 12, 1, 4, 5};
        for (int i = 0; i < all.length; i++) {
            int what = i;
            due("32: count(" + what + ")", all[what], x -> x.count(what));
        }
    }

    private static void countsOfTheEmpty() {
        int[] due = {6, 5, 0, 0, 0, 0, 0, 0, 0, 0, 0};
        for (int i = 0; i < due.length; i++) {
            int what = i;
            Refused.due("32: count(" + what + ")", CycleTimetable::new, x -> x.count(what), due[what]);
        }
    }

    private static void countsOfTheFull() {
        CycleTimetable x = Schools.full();
        int[] due = {8, 6, 8, 8, 6, 20, 0, 200, 0, 4, 60};
        for (int what = 0; what < due.length; what++) {
            Check.due("32: count(" + what + ")", x.count(what), due[what]);
        }
        int placed = 0;
        for (int course = 0; course < 20; course++) {
            placed += Math.max(0, x.fill(course));
            Check.due("32: lessons that are placed", x.count(6), placed);
            Check.due("32: lessons that are to be placed", x.count(7), 200 - placed);
        }
    }
}

/**
 * The timetable of a school whose days go round in a cycle. The public methods
 * test their arguments and keep the history; a State holds what can be undone
 * and knows the reasons against a lesson; a Text reads placings.
 */
public final class CycleTimetable {
    public static final int UNKNOWN = -1;
    public static final int BAD_VALUE = -2;
    public static final int FULL = -3;
    public static final int NOT_POSSIBLE = -4;
    public static final int NONE = -5;

    private static final int MOST_DAYS = 8;
    private static final int MOST_PERIODS = 6;
    private static final int DATES = 400;
    private static final int MOST_GROUPS = 8;
    private static final int MOST_TEACHERS = 8;
    private static final int MOST_ROOMS = 6;
    private static final int MOST_COURSES = 20;
    private static final int ALL_EQUIPMENT = 15;
    private static final int MOST_LESSONS_OF_COURSE = 10;
    private static final int MOST_LESSONS_OF_CYCLE = 40;
    private static final int MOST_LESSONS_OF_DAY = 6;
    private static final int MOST_TEXT = 60;
    private static final int MOST_PLACINGS = 10;
    private static final int MOST_HISTORY = 4;

    private static final int HALVES = 2;
    private static final int WHOLE = 0;

    /** What is kept of a course, by the numbers that course() has for it. */
    private static final int COURSE_GROUP = 0;
    private static final int COURSE_JOINED = 1;
    private static final int COURSE_PART = 2;
    private static final int COURSE_TEACHER = 3;
    private static final int COURSE_EQUIPMENT = 4;
    private static final int COURSE_LESSONS = 5;
    private static final int COURSE_FACTS = 6;

    /** What is kept of a teacher, by the numbers that teacher() has for it. */
    private static final int TEACHER_CYCLE = 0;
    private static final int TEACHER_DAY = 1;
    private static final int TEACHER_FACTS = 2;

    private static final int NO_REASON = 0;
    private static final int ALL_ARE_PLACED = 1;
    private static final int TWO_ON_THE_DAY = 2;
    private static final int TEACHER_IS_BARRED = 3;
    private static final int TEACHER_IS_BUSY = 4;
    private static final int TEACHER_HAS_MOST_OF_DAY = 5;
    private static final int TEACHER_HAS_MOST_OF_CYCLE = 6;
    private static final int GROUP_IS_BUSY = 7;
    private static final int ROOM_IS_TAKEN = 8;
    private static final int ROOM_LACKS_EQUIPMENT = 9;

    private static final int NO_ERROR = 0;
    private static final int NO_FAULT = -1;
    private static final int NO_DIGIT = -1;
    private static final int FAULTS = -100;

    private static final int BITS_OF_SET = 64;

    private final State state;
    /** Here lessons are tried, so that a call that fails leaves the state alone. */
    private final State trial;
    private final State snapshot;
    private boolean hasSnapshot;
    /** A ring: its oldest state is at firstState. */
    private final State[] history;
    private int firstState;
    private int states;
    private final Text text;

    public CycleTimetable() {
        state = new State();
        trial = new State();
        snapshot = new State();
        hasSnapshot = false;
        history = new State[MOST_HISTORY];
        for (int i = 0; i < history.length; i++) {
            history[i] = new State();
        }
        firstState = 0;
        states = 0;
        text = new Text();
    }

    // ---- the cycle and the calendar

    public int setCycle(int days, int periods) {
        if (!isIn(days, 2, MOST_DAYS) || !isIn(periods, 2, MOST_PERIODS)) {
            return BAD_VALUE;
        }
        if (state.allPlaced() > 0) {
            return NOT_POSSIBLE;
        }
        if (days == state.days && periods == state.periods) {
            return NONE;
        }
        remember();
        state.days = days;
        state.periods = periods;
        state.barred.clear();
        return state.slots();
    }

    public int holiday(int date, boolean is) {
        if (!isDate(date)) {
            return BAD_VALUE;
        }
        if (state.isHoliday(date) == is) {
            return NONE;
        }
        remember();
        state.setHoliday(date, is);
        return state.allHolidays();
    }

    // ---- who and where

    public int addGroup() {
        if (state.groups >= MOST_GROUPS) {
            return FULL;
        }
        remember();
        int added = state.groups;
        state.groups = added + 1;
        return added;
    }

    public int addTeacher(int cycle, int day) {
        if (!isIn(cycle, 1, MOST_LESSONS_OF_CYCLE) || !isIn(day, 1, MOST_LESSONS_OF_DAY)) {
            return BAD_VALUE;
        }
        if (state.teachers >= MOST_TEACHERS) {
            return FULL;
        }
        remember();
        int added = state.teachers;
        state.teacherFacts.set(added, TEACHER_CYCLE, cycle);
        state.teacherFacts.set(added, TEACHER_DAY, day);
        state.teachers = added + 1;
        return added;
    }

    public int addRoom(int equipment) {
        if (!isIn(equipment, 0, ALL_EQUIPMENT)) {
            return BAD_VALUE;
        }
        if (state.rooms >= MOST_ROOMS) {
            return FULL;
        }
        remember();
        int added = state.rooms;
        state.roomEquipment.set(added, 0, equipment);
        state.rooms = added + 1;
        return added;
    }

    public int addCourse(int group, int part, int teacher, int equipment, int lessons) {
        if (!knowsGroup(group) || !knowsTeacher(teacher)) {
            return UNKNOWN;
        }
        if (!isIn(part, WHOLE, HALVES) || !isIn(equipment, 0, ALL_EQUIPMENT)
                || !isIn(lessons, 1, MOST_LESSONS_OF_COURSE)) {
            return BAD_VALUE;
        }
        if (state.courses >= MOST_COURSES) {
            return FULL;
        }
        remember();
        int added = state.courses;
        state.courseFacts.set(added, COURSE_GROUP, group);
        state.courseFacts.set(added, COURSE_JOINED, NONE);
        state.courseFacts.set(added, COURSE_PART, part);
        state.courseFacts.set(added, COURSE_TEACHER, teacher);
        state.courseFacts.set(added, COURSE_EQUIPMENT, equipment);
        state.courseFacts.set(added, COURSE_LESSONS, lessons);
        state.courses = added + 1;
        return added;
    }

    public int join(int course, int group) {
        if (!knowsCourse(course) || !knowsGroup(group)) {
            return UNKNOWN;
        }
        if (state.fact(course, COURSE_PART) != WHOLE || state.fact(course, COURSE_JOINED) != NONE
                || state.fact(course, COURSE_GROUP) == group || state.placed(course) > 0) {
            return NOT_POSSIBLE;
        }
        remember();
        state.courseFacts.set(course, COURSE_JOINED, group);
        return state.missing(course);
    }

    public int bar(int teacher, int slot, boolean is) {
        if (!knowsTeacher(teacher) || !state.knowsSlot(slot)) {
            return UNKNOWN;
        }
        if (is && state.ofTeacher.has(teacher, slot)) {
            return NOT_POSSIBLE;
        }
        if (state.barred.has(teacher, slot) == is) {
            return NONE;
        }
        remember();
        state.barred.set(teacher, slot, is);
        return state.barred.size(teacher);
    }

    // ---- lessons

    public int place(int course, int slot, int room) {
        int error = state.errorOfPlacing(course, slot, room);
        if (error != NO_ERROR) {
            return error;
        }
        remember();
        state.setLesson(course, slot, room, true);
        return state.placed(course);
    }

    public int takeAway(int course, int slot) {
        if (!state.knowsLesson(course, slot)) {
            return UNKNOWN;
        }
        remember();
        state.setLesson(course, slot, state.roomOf(course, slot), false);
        return state.placed(course);
    }

    public int move(int course, int slot, int to, int room) {
        if (!state.knowsLesson(course, slot) || !state.knowsSlot(to) || !state.knowsRoom(room)) {
            return UNKNOWN;
        }
        int was = state.roomOf(course, slot);
        trial.copyFrom(state);
        trial.setLesson(course, slot, was, false);
        if (trial.firstReason(course, to, room) != NO_REASON) {
            return NOT_POSSIBLE;
        }
        if (to == slot && room == was) {
            return NONE;
        }
        trial.setLesson(course, to, room, true);
        adoptTrial();
        return was;
    }

    public int swap(int course, int slot, int other, int otherSlot) {
        if (!state.knowsLesson(course, slot) || !state.knowsLesson(other, otherSlot)) {
            return UNKNOWN;
        }
        // Lessons of one slot go back to where they were: no reason can stand against that.
        if (slot == otherSlot) {
            return NONE;
        }
        int room = state.roomOf(course, slot);
        int otherRoom = state.roomOf(other, otherSlot);
        trial.copyFrom(state);
        trial.setLesson(course, slot, room, false);
        trial.setLesson(other, otherSlot, otherRoom, false);
        if (trial.firstReason(course, otherSlot, room) != NO_REASON) {
            return NOT_POSSIBLE;
        }
        trial.setLesson(course, otherSlot, room, true);
        if (trial.firstReason(other, slot, otherRoom) != NO_REASON) {
            return NOT_POSSIBLE;
        }
        trial.setLesson(other, slot, otherRoom, true);
        adoptTrial();
        return state.lessonsIn(slot) + state.lessonsIn(otherSlot);
    }

    public int fill(int course) {
        if (!knowsCourse(course)) {
            return UNKNOWN;
        }
        trial.copyFrom(state);
        int before = trial.placed(course);
        // A lesson placed never makes a lower slot free, so one way through the slots does.
        for (int slot = 0; slot < trial.slots(); slot++) {
            int room = trial.lowestFreeRoom(course, slot);
            if (room != NONE) {
                trial.setLesson(course, slot, room, true);
            }
        }
        int added = trial.placed(course) - before;
        if (added <= 0) {
            return NONE;
        }
        adoptTrial();
        return added;
    }

    // ---- texts

    public int type(char character) {
        if (text.length >= MOST_TEXT) {
            return FULL;
        }
        text.append(character);
        return text.length;
    }

    public int clearText() {
        int was = text.length;
        text.length = 0;
        return was;
    }

    public int readPlacings() {
        int fault = text.parse();
        if (fault != NO_FAULT) {
            return FAULTS - fault;
        }
        trial.copyFrom(state);
        for (int i = 0; i < text.found; i++) {
            int course = text.placings.get(i, 0);
            int slot = text.placings.get(i, 1);
            int room = text.placings.get(i, 2);
            int error = trial.errorOfPlacing(course, slot, room);
            if (error != NO_ERROR) {
                return error;
            }
            trial.setLesson(course, slot, room, true);
        }
        adoptTrial();
        return text.found;
    }

    // ---- history

    public int undo() {
        if (states <= 0) {
            return NONE;
        }
        states--;
        state.copyFrom(historyAt(states));
        return states;
    }

    public int keep() {
        snapshot.copyFrom(state);
        hasSnapshot = true;
        return state.allPlaced();
    }

    public int restore() {
        if (!hasSnapshot) {
            return NONE;
        }
        remember();
        state.copyFrom(snapshot);
        return state.allPlaced();
    }

    // ---- what is told

    public int reason(int course, int slot, int room) {
        if (!knowsCourse(course) || !state.knowsSlot(slot) || !state.knowsRoom(room)) {
            return UNKNOWN;
        }
        return state.firstReason(course, slot, room);
    }

    public int course(int course, int what) {
        if (!knowsCourse(course)) {
            return UNKNOWN;
        }
        if (isIn(what, 0, COURSE_FACTS - 1)) {
            return state.fact(course, what);
        }
        switch (what) {
            case 6:
                return state.placed(course);
            case 7:
                return state.freePlaces(course);
            default:
                return BAD_VALUE;
        }
    }

    public int lessonAt(int course, int place) {
        if (!knowsCourse(course)) {
            return UNKNOWN;
        }
        if (place < 0) {
            return BAD_VALUE;
        }
        int before = 0;
        for (int slot = 0; slot < state.slots(); slot++) {
            if (state.ofCourse.has(course, slot)) {
                if (before == place) {
                    return 10 * slot + state.roomOf(course, slot);
                }
                before++;
            }
        }
        return NONE;
    }

    public int groupAt(int group, int part, int slot) {
        if (!knowsGroup(group) || !state.knowsSlot(slot)) {
            return UNKNOWN;
        }
        if (!isIn(part, WHOLE, HALVES)) {
            return BAD_VALUE;
        }
        for (int course = 0; course < state.courses; course++) {
            if (state.ofCourse.has(course, slot) && state.isFor(course, group, part)) {
                return course;
            }
        }
        return NONE;
    }

    public int roomAt(int room, int slot) {
        if (!state.knowsRoom(room) || !state.knowsSlot(slot)) {
            return UNKNOWN;
        }
        for (int course = 0; course < state.courses; course++) {
            if (state.isInRoom(course, slot, room)) {
                return course;
            }
        }
        return NONE;
    }

    public int teacherAt(int teacher, int slot) {
        if (!knowsTeacher(teacher) || !state.knowsSlot(slot)) {
            return UNKNOWN;
        }
        for (int course = 0; course < state.courses; course++) {
            if (state.fact(course, COURSE_TEACHER) == teacher && state.ofCourse.has(course, slot)) {
                return course;
            }
        }
        return NONE;
    }

    public int teacher(int teacher, int what) {
        if (!knowsTeacher(teacher)) {
            return UNKNOWN;
        }
        switch (what) {
            case 0:
                return state.teacherFacts.get(teacher, TEACHER_CYCLE);
            case 1:
                return state.teacherFacts.get(teacher, TEACHER_DAY);
            case 2:
                return state.ofTeacher.size(teacher);
            case 3:
                return state.coursesOfTeacher(teacher);
            case 4:
                return state.barred.size(teacher);
            case 5:
                return state.mostOnADay(teacher);
            case 6:
                return state.windows(state.ofTeacher, teacher);
            case 7:
                return state.lessonsOfTeacher(teacher);
            default:
                return BAD_VALUE;
        }
    }

    public int group(int group, int half, int what) {
        if (!knowsGroup(group)) {
            return UNKNOWN;
        }
        if (!isIn(half, 1, HALVES)) {
            return BAD_VALUE;
        }
        int row = State.rowOfHalf(group, half);
        switch (what) {
            case 0:
                return state.ofHalf.size(row);
            case 1:
                return state.windows(state.ofHalf, row);
            case 2:
                return state.missingOfHalf(group, half);
            default:
                return BAD_VALUE;
        }
    }

    public int room(int room, int what) {
        if (!state.knowsRoom(room)) {
            return UNKNOWN;
        }
        switch (what) {
            case 0:
                return state.roomEquipment.get(room, 0);
            case 1:
                return state.ofRoom.size(room);
            default:
                return BAD_VALUE;
        }
    }

    public int dayOf(int date) {
        if (!isDate(date)) {
            return BAD_VALUE;
        }
        if (state.isHoliday(date)) {
            return NONE;
        }
        return state.dayAfter(state.openBefore(date));
    }

    public int nextDate(int date, int day) {
        if (!isDate(date) || !isIn(day, 0, state.days - 1)) {
            return BAD_VALUE;
        }
        int open = state.openBefore(date);
        for (int later = date; later < DATES; later++) {
            if (!state.isHoliday(later)) {
                if (state.dayAfter(open) == day) {
                    return later;
                }
                open++;
            }
        }
        return NONE;
    }

    public int count(int what) {
        switch (what) {
            case 0:
                return state.days;
            case 1:
                return state.periods;
            case 2:
                return state.groups;
            case 3:
                return state.teachers;
            case 4:
                return state.rooms;
            case 5:
                return state.courses;
            case 6:
                return state.allPlaced();
            case 7:
                return state.allMissing();
            case 8:
                return state.allHolidays();
            case 9:
                return states;
            case 10:
                return text.length;
            default:
                return BAD_VALUE;
        }
    }

    // ---- tests of arguments

    private static boolean isIn(int value, int least, int most) {
        return least <= value && value <= most;
    }

    private static boolean isDate(int date) {
        return isIn(date, 0, DATES - 1);
    }

    private boolean knowsGroup(int group) {
        return isIn(group, 0, state.groups - 1);
    }

    private boolean knowsTeacher(int teacher) {
        return isIn(teacher, 0, state.teachers - 1);
    }

    private boolean knowsCourse(int course) {
        return state.knowsCourse(course);
    }

    // ---- keeping the history

    /** Records the state as it is, before an act changes it. */
    private void remember() {
        if (states >= MOST_HISTORY) {
            firstState = (firstState + 1) % MOST_HISTORY;
            states = MOST_HISTORY - 1;
        }
        State kept = historyAt(states);
        if (kept != null) {
            kept.copyFrom(state);
        }
        states++;
    }

    private void adoptTrial() {
        remember();
        state.copyFrom(trial);
    }

    /** The state of the history that has so many older ones. */
    private State historyAt(int older) {
        int index = (firstState + older) % MOST_HISTORY;
        if (index < 0 || index >= history.length) {
            return null;
        }
        return history[index];
    }

    /** Rows of numbers; what lies outside of them reads as 0 and is not written. */
    private static final class Numbers {
        private final int width;
        private final int[] cells;

        Numbers(int rows, int width) {
            this.width = width;
            this.cells = new int[Math.max(0, rows * width)];
        }

        int get(int row, int column) {
            int index = row * width + column;
            if (column < 0 || column >= width || index < 0 || index >= cells.length) {
                return 0;
            }
            return cells[index];
        }

        void set(int row, int column, int value) {
            int index = row * width + column;
            if (column >= 0 && column < width && index >= 0 && index < cells.length) {
                cells[index] = value;
            }
        }

        void copyFrom(Numbers other) {
            int length = Math.min(cells.length, other.cells.length);
            System.arraycopy(other.cells, 0, cells, 0, length);
        }
    }

    /** Rows of sets with members from 0 to 63; sets outside of them are empty and stay so. */
    private static final class Sets {
        private final long[] rows;

        Sets(int length) {
            rows = new long[Math.max(0, length)];
        }

        boolean has(int row, int member) {
            return row >= 0 && row < rows.length && (rows[row] >>> member & 1) != 0;
        }

        int size(int row) {
            return row < 0 || row >= rows.length ? 0 : Long.bitCount(rows[row]);
        }

        /** How many members a row has from one number on, in a stretch of less than 64. */
        int sizeWithin(int row, int from, int length) {
            if (row < 0 || row >= rows.length) {
                return 0;
            }
            long stretch = (1L << length) - 1;
            return Long.bitCount(rows[row] >>> from & stretch);
        }

        /** How many that are no members lie between two members of this stretch. */
        int gapsWithin(int row, int from, int length) {
            int gaps = 0;
            int sinceLast = 0;
            boolean begun = false;
            for (int member = from; member < from + length; member++) {
                if (has(row, member)) {
                    if (begun) {
                        gaps += sinceLast;
                    }
                    begun = true;
                    sinceLast = 0;
                } else {
                    sinceLast++;
                }
            }
            return gaps;
        }

        void set(int row, int member, boolean is) {
            if (row < 0 || row >= rows.length) {
                return;
            }
            long bit = 1L << member;
            rows[row] = is ? rows[row] | bit : rows[row] & ~bit;
        }

        int sizeOfAll() {
            int size = 0;
            for (int row = 0; row < rows.length; row++) {
                size += Long.bitCount(rows[row]);
            }
            return size;
        }

        void clear() {
            for (int row = 0; row < rows.length; row++) {
                rows[row] = 0;
            }
        }

        void copyFrom(Sets other) {
            int length = Math.min(rows.length, other.rows.length);
            System.arraycopy(other.rows, 0, rows, 0, length);
        }
    }

    /** Everything that an act can change. */
    private static final class State {
        int days;
        int periods;
        int groups;
        int teachers;
        int rooms;
        int courses;
        final Numbers teacherFacts;
        final Numbers roomEquipment;
        final Numbers courseFacts;
        final Sets holidays;
        final Sets barred;
        /** The slots of the lessons: those of a course in a room tell all, the others are for speed. */
        final Sets ofCourseInRoom;
        final Sets ofCourse;
        final Sets ofTeacher;
        final Sets ofRoom;
        final Sets ofHalf;

        State() {
            days = 6;
            periods = 5;
            groups = 0;
            teachers = 0;
            rooms = 0;
            courses = 0;
            teacherFacts = new Numbers(MOST_TEACHERS, TEACHER_FACTS);
            roomEquipment = new Numbers(MOST_ROOMS, 1);
            courseFacts = new Numbers(MOST_COURSES, COURSE_FACTS);
            holidays = new Sets(DATES / BITS_OF_SET + 1);
            barred = new Sets(MOST_TEACHERS);
            ofCourseInRoom = new Sets(MOST_COURSES * MOST_ROOMS);
            ofCourse = new Sets(MOST_COURSES);
            ofTeacher = new Sets(MOST_TEACHERS);
            ofRoom = new Sets(MOST_ROOMS);
            ofHalf = new Sets(MOST_GROUPS * HALVES);
        }

        void copyFrom(State other) {
            if (other == null) {
                return;
            }
            days = other.days;
            periods = other.periods;
            groups = other.groups;
            teachers = other.teachers;
            rooms = other.rooms;
            courses = other.courses;
            teacherFacts.copyFrom(other.teacherFacts);
            roomEquipment.copyFrom(other.roomEquipment);
            courseFacts.copyFrom(other.courseFacts);
            holidays.copyFrom(other.holidays);
            barred.copyFrom(other.barred);
            ofCourseInRoom.copyFrom(other.ofCourseInRoom);
            ofCourse.copyFrom(other.ofCourse);
            ofTeacher.copyFrom(other.ofTeacher);
            ofRoom.copyFrom(other.ofRoom);
            ofHalf.copyFrom(other.ofHalf);
        }

        // -- the cycle and the calendar

        int slots() {
            return days * periods;
        }

        boolean knowsSlot(int slot) {
            return isIn(slot, 0, slots() - 1);
        }

        private int firstOfDayOf(int slot) {
            return periods <= 0 ? 0 : slot / periods * periods;
        }

        boolean isHoliday(int date) {
            return holidays.has(date / BITS_OF_SET, date % BITS_OF_SET);
        }

        void setHoliday(int date, boolean is) {
            holidays.set(date / BITS_OF_SET, date % BITS_OF_SET, is);
        }

        int allHolidays() {
            return holidays.sizeOfAll();
        }

        /** How many dates before this one are no holidays. */
        int openBefore(int date) {
            int open = 0;
            for (int earlier = 0; earlier < date; earlier++) {
                if (!isHoliday(earlier)) {
                    open++;
                }
            }
            return open;
        }

        /** The day of the cycle after so many dates that are no holidays. */
        int dayAfter(int open) {
            return days <= 0 ? 0 : open % days;
        }

        // -- who and where

        boolean knowsCourse(int course) {
            return isIn(course, 0, courses - 1);
        }

        boolean knowsRoom(int room) {
            return isIn(room, 0, rooms - 1);
        }

        int fact(int course, int what) {
            return courseFacts.get(course, what);
        }

        /** Whether this part of the group, or any of it, takes part in the course. */
        boolean isFor(int course, int group, int part) {
            if (fact(course, COURSE_JOINED) == group) {
                return true;
            }
            int own = fact(course, COURSE_PART);
            return fact(course, COURSE_GROUP) == group
                    && (part == WHOLE || own == WHOLE || own == part);
        }

        static int rowOfHalf(int group, int half) {
            return group * HALVES + half - 1;
        }

        int coursesOfTeacher(int teacher) {
            int found = 0;
            for (int course = 0; course < courses; course++) {
                if (fact(course, COURSE_TEACHER) == teacher) {
                    found++;
                }
            }
            return found;
        }

        int lessonsOfTeacher(int teacher) {
            int lessons = 0;
            for (int course = 0; course < courses; course++) {
                if (fact(course, COURSE_TEACHER) == teacher) {
                    lessons += fact(course, COURSE_LESSONS);
                }
            }
            return lessons;
        }

        // -- lessons

        boolean knowsLesson(int course, int slot) {
            return knowsCourse(course) && knowsSlot(slot) && ofCourse.has(course, slot);
        }

        void setLesson(int course, int slot, int room, boolean is) {
            ofCourseInRoom.set(rowInRoom(course, room), slot, is);
            ofCourse.set(course, slot, is);
            ofTeacher.set(fact(course, COURSE_TEACHER), slot, is);
            ofRoom.set(room, slot, is);
            setHalves(fact(course, COURSE_GROUP), fact(course, COURSE_PART), slot, is);
            if (fact(course, COURSE_JOINED) != NONE) {
                setHalves(fact(course, COURSE_JOINED), WHOLE, slot, is);
            }
        }

        private void setHalves(int group, int part, int slot, boolean is) {
            for (int half = 1; half <= HALVES; half++) {
                if (part == WHOLE || part == half) {
                    ofHalf.set(rowOfHalf(group, half), slot, is);
                }
            }
        }

        private static int rowInRoom(int course, int room) {
            return course * MOST_ROOMS + room;
        }

        boolean isInRoom(int course, int slot, int room) {
            return ofCourseInRoom.has(rowInRoom(course, room), slot);
        }

        int roomOf(int course, int slot) {
            for (int room = 0; room < rooms; room++) {
                if (isInRoom(course, slot, room)) {
                    return room;
                }
            }
            return NONE;
        }

        int placed(int course) {
            return ofCourse.size(course);
        }

        int missing(int course) {
            return fact(course, COURSE_LESSONS) - placed(course);
        }

        int allPlaced() {
            return ofCourse.sizeOfAll();
        }

        int allMissing() {
            int missing = 0;
            for (int course = 0; course < courses; course++) {
                missing += missing(course);
            }
            return missing;
        }

        int missingOfHalf(int group, int half) {
            int missing = 0;
            for (int course = 0; course < courses; course++) {
                if (isFor(course, group, half)) {
                    missing += missing(course);
                }
            }
            return missing;
        }

        int lessonsIn(int slot) {
            int lessons = 0;
            for (int course = 0; course < courses; course++) {
                if (ofCourse.has(course, slot)) {
                    lessons++;
                }
            }
            return lessons;
        }

        int mostOnADay(int teacher) {
            int most = 0;
            for (int day = 0; day < days; day++) {
                most = Math.max(most, ofTeacher.sizeWithin(teacher, day * periods, periods));
            }
            return most;
        }

        /** The windows of one whose lessons are in the slots of this set. */
        int windows(Sets sets, int row) {
            int windows = 0;
            for (int day = 0; day < days; day++) {
                windows += sets.gapsWithin(row, day * periods, periods);
            }
            return windows;
        }

        // -- reasons

        /** The error that placing this lesson has, or NO_ERROR. */
        int errorOfPlacing(int course, int slot, int room) {
            if (!knowsCourse(course) || !knowsSlot(slot) || !knowsRoom(room)) {
                return UNKNOWN;
            }
            return firstReason(course, slot, room) != NO_REASON ? NOT_POSSIBLE : NO_ERROR;
        }

        int firstReason(int course, int slot, int room) {
            int against = reasonOfSlot(course, slot);
            return against != NO_REASON ? against : reasonOfRoom(course, slot, room);
        }

        /** The first of the reasons that are the same for all rooms. */
        private int reasonOfSlot(int course, int slot) {
            int teacher = fact(course, COURSE_TEACHER);
            int first = firstOfDayOf(slot);
            if (placed(course) >= fact(course, COURSE_LESSONS)) {
                return ALL_ARE_PLACED;
            }
            if (ofCourse.sizeWithin(course, first, periods) >= 2) {
                return TWO_ON_THE_DAY;
            }
            if (barred.has(teacher, slot)) {
                return TEACHER_IS_BARRED;
            }
            if (ofTeacher.has(teacher, slot)) {
                return TEACHER_IS_BUSY;
            }
            if (ofTeacher.sizeWithin(teacher, first, periods) >= teacherFacts.get(teacher, TEACHER_DAY)) {
                return TEACHER_HAS_MOST_OF_DAY;
            }
            if (ofTeacher.size(teacher) >= teacherFacts.get(teacher, TEACHER_CYCLE)) {
                return TEACHER_HAS_MOST_OF_CYCLE;
            }
            return hasBusyGroup(course, slot) ? GROUP_IS_BUSY : NO_REASON;
        }

        private int reasonOfRoom(int course, int slot, int room) {
            if (ofRoom.has(room, slot)) {
                return ROOM_IS_TAKEN;
            }
            int lacking = fact(course, COURSE_EQUIPMENT) & ~roomEquipment.get(room, 0);
            return lacking != 0 ? ROOM_LACKS_EQUIPMENT : NO_REASON;
        }

        private boolean hasBusyGroup(int course, int slot) {
            int joined = fact(course, COURSE_JOINED);
            return isBusy(fact(course, COURSE_GROUP), fact(course, COURSE_PART), slot)
                    || joined != NONE && isBusy(joined, WHOLE, slot);
        }

        private boolean isBusy(int group, int part, int slot) {
            for (int half = 1; half <= HALVES; half++) {
                if ((part == WHOLE || part == half) && ofHalf.has(rowOfHalf(group, half), slot)) {
                    return true;
                }
            }
            return false;
        }

        int lowestFreeRoom(int course, int slot) {
            if (reasonOfSlot(course, slot) != NO_REASON) {
                return NONE;
            }
            for (int room = 0; room < rooms; room++) {
                if (reasonOfRoom(course, slot, room) == NO_REASON) {
                    return room;
                }
            }
            return NONE;
        }

        /** At how many slots and rooms one more lesson of the course could be placed. */
        int freePlaces(int course) {
            int free = 0;
            for (int slot = 0; slot < slots(); slot++) {
                if (reasonOfSlot(course, slot) == NO_REASON) {
                    free += freeRooms(course, slot);
                }
            }
            return free;
        }

        private int freeRooms(int course, int slot) {
            int free = 0;
            for (int room = 0; room < rooms; room++) {
                if (reasonOfRoom(course, slot, room) == NO_REASON) {
                    free++;
                }
            }
            return free;
        }
    }

    /** The text that is typed, and the placings that were last read from it. */
    private static final class Text {
        int length;
        int found;
        /** For each placing its course, slot and room. */
        final Numbers placings;
        private final Numbers characters;
        private int position;

        Text() {
            length = 0;
            found = 0;
            placings = new Numbers(MOST_PLACINGS, 3);
            characters = new Numbers(MOST_TEXT, 1);
            position = 0;
        }

        void append(char character) {
            characters.set(length, 0, character);
            length++;
        }

        /** Reads the placings; tells the fault of the text, or NO_FAULT. */
        int parse() {
            position = 0;
            found = 0;
            for (int placing = 0; placing < MOST_TEXT; placing++) {
                int course = readNumber();
                if (course == NO_DIGIT || !reads('@')) {
                    return position;
                }
                int slot = readNumber();
                if (slot == NO_DIGIT || !reads('r')) {
                    return position;
                }
                int room = readDigit();
                if (room == NO_DIGIT) {
                    return position;
                }
                putPlacing(course, slot, room);
                if (position >= length) {
                    return NO_FAULT;
                }
                if (!reads(';')) {
                    return position;
                }
            }
            return position;
        }

        private void putPlacing(int course, int slot, int room) {
            placings.set(found, 0, course);
            placings.set(found, 1, slot);
            placings.set(found, 2, room);
            found++;
        }

        private boolean reads(char wanted) {
            if (position >= length || characters.get(position, 0) != wanted) {
                return false;
            }
            position++;
            return true;
        }

        private int readDigit() {
            int digit = characters.get(position, 0) - '0';
            if (position >= length || !isIn(digit, 0, 9)) {
                return NO_DIGIT;
            }
            position++;
            return digit;
        }

        /** One or two digits; a zero in front stands alone. */
        private int readNumber() {
            int first = readDigit();
            if (first <= 0) {
                return first;
            }
            int second = readDigit();
            return second == NO_DIGIT ? first : 10 * first + second;
        }
    }
}

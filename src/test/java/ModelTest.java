import java.util.Random;

/** Long runs of calls, ordinary and wild, whose answers are compared with those of the Model. */
public final class ModelTest {
    private static final int RUNS = 2000;
    /** What an object answers later is free. */
    private static final int CALLS = 512;
    private static final int[] WILD = {Integer.MIN_VALUE, Integer.MAX_VALUE, -1, -2, 60, 400, 1000, 1 << 29};

    private final Random random;
    private final CycleTimetable x = new CycleTimetable();
    private final Model m = new Model();
    private int calls = 0;
    private String call;

    private ModelTest(long seed) {
        random = new Random(seed);
    }

    public static void main(String[] args) {
        for (int run = 0; run < RUNS; run++) {
            if (!new ModelTest(run).runs(run)) {
                System.exit(1);
            }
        }
    }

    private boolean runs(int run) {
        boolean same = run % 4 == 0 || school();
        // A text takes up to a hundred calls.
        int acts = 100 + random.nextInt(CALLS - 200);
        while (same && calls < acts) {
            same = random.nextInt(8) < 6 ? act() : ask();
        }
        while (same && calls < CALLS) {
            same = ask();
        }
        return same || tell(run);
    }

    private boolean tell(int run) {
        System.out.println("run " + run + ": " + call);
        return false;
    }

    private boolean same(String name, int got, int due, int... arguments) {
        calls++;
        call = name + java.util.Arrays.toString(arguments) + " answered " + got + ", due is " + due;
        return got == due;
    }

    /** Mostly a number of 0 to below - 1, at times one a little outside, seldom a wild one. */
    private int any(int below) {
        int kind = random.nextInt(60);
        if (kind == 0) {
            return WILD[random.nextInt(WILD.length)];
        }
        if (kind == 1) {
            return random.nextInt(3) - 1 + below;
        }
        return random.nextInt(Math.max(1, below));
    }

    private int group() {
        return any(m.count(2));
    }

    private int teacher() {
        return any(m.count(3));
    }

    private int room() {
        return any(m.count(4));
    }

    private int course() {
        return any(m.count(5));
    }

    private int slot() {
        return any(m.count(0) * m.count(1));
    }

    /** Some of everything, so that lessons can be placed at all. */
    private boolean school() {
        boolean same = true;
        int days = 2 + random.nextInt(7);
        int periods = 2 + random.nextInt(5);
        same &= same("setCycle", x.setCycle(days, periods), m.setCycle(days, periods), days, periods);
        int groups = 1 + random.nextInt(8);
        int teachers = 1 + random.nextInt(8);
        int rooms = 1 + random.nextInt(6);
        int courses = 1 + random.nextInt(20);
        for (int i = 0; i < groups; i++) {
            same &= addGroup();
        }
        for (int i = 0; i < teachers; i++) {
            same &= addTeacher();
        }
        for (int i = 0; i < rooms; i++) {
            same &= addRoom();
        }
        for (int i = 0; i < courses; i++) {
            same &= addCourse();
            same &= random.nextInt(4) != 0 || join();
        }
        return same;
    }

    private boolean addGroup() {
        return same("addGroup", x.addGroup(), m.addGroup());
    }

    private boolean addTeacher() {
        int cycle = 1 + any(random.nextBoolean() ? 40 : 6);
        int day = 1 + any(6);
        return same("addTeacher", x.addTeacher(cycle, day), m.addTeacher(cycle, day), cycle, day);
    }

    private boolean addRoom() {
        int e = any(16) | (random.nextBoolean() ? 7 : 0);
        return same("addRoom", x.addRoom(e), m.addRoom(e), e);
    }

    private boolean addCourse() {
        int g = group();
        int p = any(3);
        int t = teacher();
        int e = any(16) & (random.nextBoolean() ? -7 : -1);
        int l = 1 + any(10);
        return same("addCourse", x.addCourse(g, p, t, e, l), m.addCourse(g, p, t, e, l), g, p, t, e, l);
    }

    private boolean join() {
        int c = course();
        int g = group();
        return same("join", x.join(c, g), m.join(c, g), c, g);
    }

    private boolean act() {
        int a = course();
        int b = course();
        int s = random.nextInt(4) == 0 ? slot() : taken(a);
        int o = random.nextInt(4) == 0 ? slot() : taken(b);
        int to = slot();
        int r = room();
        switch (random.nextInt(27)) {
            case 0:
                return add();
            case 1:
                int days = random.nextInt(6) == 0 ? any(10) : m.count(0);
                int periods = random.nextInt(6) == 0 ? any(8) : m.count(1);
                return same("setCycle", x.setCycle(days, periods), m.setCycle(days, periods), days, periods);
            case 2:
                int date = random.nextInt(3) == 0 ? any(400) : any(12);
                boolean is = random.nextInt(3) > 0;
                return same("holiday", x.holiday(date, is), m.holiday(date, is), date);
            case 3:
                return join();
            case 4:
            case 5:
                int t = teacher();
                boolean bars = random.nextInt(3) > 0;
                return same("bar", x.bar(t, to, bars), m.bar(t, to, bars), t, to, bars ? 1 : 0);
            case 6:
            case 7:
                return same("takeAway", x.takeAway(a, s), m.takeAway(a, s), a, s);
            case 8:
            case 9:
                return same("move", x.move(a, s, to, r), m.move(a, s, to, r), a, s, to, r);
            case 10:
                return same("move", x.move(a, s, s, r), m.move(a, s, s, r), a, s, s, r);
            case 11:
            case 12:
                return same("swap", x.swap(a, s, b, o), m.swap(a, s, b, o), a, s, b, o);
            case 13:
                return same("fill", x.fill(a), m.fill(a), a);
            case 14:
            case 15:
                return text();
            case 16:
                return same("undo", x.undo(), m.undo());
            case 17:
                return random.nextInt(3) > 0 || same("keep", x.keep(), m.keep());
            case 18:
                return random.nextInt(3) > 0 || same("restore", x.restore(), m.restore());
            default:
                return same("place", x.place(a, to, r), m.place(a, to, r), a, to, r);
        }
    }

    private boolean add() {
        switch (random.nextInt(4)) {
            case 0:
                return addGroup();
            case 1:
                return addTeacher();
            case 2:
                return addRoom();
            default:
                return addCourse();
        }
    }

    /** A slot in which the course has a lesson, if there is one. */
    private int taken(int course) {
        int placed = m.course(course, 6);
        return placed > 0 ? m.lessonAt(course, random.nextInt(placed)) / 10 : slot();
    }

    private boolean text() {
        boolean same = random.nextInt(3) == 0 || same("clearText", x.clearText(), m.clearText());
        StringBuilder written = new StringBuilder();
        int placings = 1 + random.nextInt(random.nextInt(6) == 0 ? 12 : 3);
        for (int i = 0; i < placings; i++) {
            written.append(i == 0 ? "" : ";").append(course()).append('@').append(slot()).append('r').append(room());
        }
        if (random.nextInt(3) == 0) {
            int at = random.nextInt(written.length());
            written.setCharAt(at, "0123456789@r; x".charAt(random.nextInt(15)));
        }
        if (random.nextInt(6) == 0) {
            written.setLength(random.nextInt(written.length()));
        }
        for (int i = 0; i < written.length(); i++) {
            same &= same("type", x.type(written.charAt(i)), m.type(written.charAt(i)));
        }
        return same && same("readPlacings of " + written, x.readPlacings(), m.readPlacings());
    }

    private boolean ask() {
        int a = course();
        int s = slot();
        int r = room();
        int g = group();
        int t = teacher();
        int what = any(8);
        int number = any(11);
        int half = any(3);
        int date = any(400);
        int day = any(m.count(0));
        switch (random.nextInt(12)) {
            case 0:
                return same("course", x.course(a, what), m.course(a, what), a, what);
            case 1:
                return same("lessonAt", x.lessonAt(a, what), m.lessonAt(a, what), a, what);
            case 2:
                return same("groupAt", x.groupAt(g, half, s), m.groupAt(g, half, s), g, half, s);
            case 3:
                return same("roomAt", x.roomAt(r, s), m.roomAt(r, s), r, s);
            case 4:
                return same("teacherAt", x.teacherAt(t, s), m.teacherAt(t, s), t, s);
            case 5:
                return same("teacher", x.teacher(t, what), m.teacher(t, what), t, what);
            case 6:
                return same("group", x.group(g, half, what / 3), m.group(g, half, what / 3), g, half, what / 3);
            case 7:
                return same("room", x.room(r, what / 4), m.room(r, what / 4), r, what / 4);
            case 8:
                return same("dayOf", x.dayOf(date), m.dayOf(date), date);
            case 9:
                return same("nextDate", x.nextDate(date, day), m.nextDate(date, day), date, day);
            case 10:
                return same("count", x.count(number), m.count(number), number);
            default:
                return same("reason", x.reason(a, s, r), m.reason(a, s, r), a, s, r);
        }
    }
}

import java.util.ArrayList;
import java.util.HashSet;
import java.util.List;
import java.util.Set;
import java.util.TreeSet;
import java.util.regex.Matcher;
import java.util.regex.Pattern;

/** The document again, written as plainly as can be: lists that are searched. */
final class Model {
    private static final int UNKNOWN = -1;
    private static final int BAD = -2;
    private static final int FULL = -3;
    private static final int NOT = -4;
    private static final int NONE = -5;

    private record Teacher(int cycle, int day) {
    }

    private record Course(int group, int joined, int part, int teacher, int equipment, int lessons) {
    }

    private record Lesson(int course, int slot, int room) {
    }

    private record Barred(int teacher, int slot) {
    }

    private static final class World {
        int days = 6;
        int periods = 5;
        int groups = 0;
        List<Teacher> teachers = new ArrayList<>();
        List<Integer> rooms = new ArrayList<>();
        List<Course> courses = new ArrayList<>();
        Set<Integer> holidays = new HashSet<>();
        Set<Barred> bars = new HashSet<>();
        List<Lesson> lessons = new ArrayList<>();

        World copy() {
            World w = new World();
            w.days = days;
            w.periods = periods;
            w.groups = groups;
            w.teachers.addAll(teachers);
            w.rooms.addAll(rooms);
            w.courses.addAll(courses);
            w.holidays.addAll(holidays);
            w.bars.addAll(bars);
            w.lessons.addAll(lessons);
            return w;
        }

        boolean noSlot(int slot) {
            return slot < 0 || slot >= days * periods;
        }

        boolean noCourse(int course) {
            return course < 0 || course >= courses.size();
        }

        boolean noTeacher(int teacher) {
            return teacher < 0 || teacher >= teachers.size();
        }

        boolean noRoom(int room) {
            return room < 0 || room >= rooms.size();
        }

        boolean noGroup(int group) {
            return group < 0 || group >= groups;
        }

        Lesson lesson(int course, int slot) {
            return lessons.stream().filter(l -> l.course == course && l.slot == slot).findFirst().orElse(null);
        }

        int placed(int course) {
            return (int) lessons.stream().filter(l -> l.course == course).count();
        }

        Course of(Lesson l) {
            return courses.get(l.course);
        }

        boolean clash(Course a, Course b) {
            int[][] mine = {{a.group, a.part}, {a.joined, 0}};
            int[][] theirs = {{b.group, b.part}, {b.joined, 0}};
            for (int[] m : mine) {
                for (int[] t : theirs) {
                    boolean halves = m[1] + t[1] == 3;
                    if (m[0] != NONE && m[0] == t[0] && !halves) {
                        return true;
                    }
                }
            }
            return false;
        }

        int reason(int course, int slot, int room) {
            Course c = courses.get(course);
            Teacher t = teachers.get(c.teacher);
            int day = slot / periods;
            if (placed(course) >= c.lessons) {
                return 1;
            }
            if (lessons.stream().filter(l -> l.course == course && l.slot / periods == day).count() >= 2) {
                return 2;
            }
            if (bars.contains(new Barred(c.teacher, slot))) {
                return 3;
            }
            List<Lesson> his = lessons.stream().filter(l -> of(l).teacher == c.teacher).toList();
            if (his.stream().anyMatch(l -> l.slot == slot)) {
                return 4;
            }
            if (his.stream().filter(l -> l.slot / periods == day).count() >= t.day) {
                return 5;
            }
            if (his.size() >= t.cycle) {
                return 6;
            }
            if (lessons.stream().anyMatch(l -> l.slot == slot && clash(of(l), c))) {
                return 7;
            }
            if (lessons.stream().anyMatch(l -> l.slot == slot && l.room == room)) {
                return 8;
            }
            for (int bit = 0; bit < 4; bit++) {
                if ((c.equipment >> bit) % 2 == 1 && (rooms.get(room) >> bit) % 2 == 0) {
                    return 9;
                }
            }
            return 0;
        }

        int place(int course, int slot, int room) {
            if (noCourse(course) || noSlot(slot) || noRoom(room)) {
                return UNKNOWN;
            }
            if (reason(course, slot, room) != 0) {
                return NOT;
            }
            lessons.add(new Lesson(course, slot, room));
            return placed(course);
        }

        int windows(Set<Integer> slots) {
            int windows = 0;
            for (int slot = 0; slot < days * periods; slot++) {
                int s = slot;
                boolean before = slots.stream().anyMatch(o -> o / periods == s / periods && o < s);
                boolean behind = slots.stream().anyMatch(o -> o / periods == s / periods && o > s);
                if (before && behind && !slots.contains(slot)) {
                    windows++;
                }
            }
            return windows;
        }

        boolean takesPart(Course c, int group, int part) {
            boolean own = c.group == group && !(c.part + part == 3 && c.part != 0 && part != 0);
            return own || c.joined == group;
        }
    }

    private World w = new World();
    private World kept = null;
    private final List<World> past = new ArrayList<>();
    private String text = "";

    private void act(World next) {
        past.add(w);
        if (past.size() > 4) {
            past.remove(0);
        }
        w = next;
    }

    int setCycle(int days, int periods) {
        if (days < 2 || days > 8 || periods < 2 || periods > 6) {
            return BAD;
        }
        if (!w.lessons.isEmpty()) {
            return NOT;
        }
        if (w.days == days && w.periods == periods) {
            return NONE;
        }
        World n = w.copy();
        n.days = days;
        n.periods = periods;
        n.bars.clear();
        act(n);
        return days * periods;
    }

    int holiday(int date, boolean is) {
        if (date < 0 || date > 399) {
            return BAD;
        }
        World n = w.copy();
        if (!(is ? n.holidays.add(date) : n.holidays.remove(date))) {
            return NONE;
        }
        act(n);
        return n.holidays.size();
    }

    int addGroup() {
        if (w.groups == 8) {
            return FULL;
        }
        World n = w.copy();
        n.groups++;
        act(n);
        return n.groups - 1;
    }

    int addTeacher(int cycle, int day) {
        if (cycle < 1 || cycle > 40 || day < 1 || day > 6) {
            return BAD;
        }
        if (w.teachers.size() == 8) {
            return FULL;
        }
        World n = w.copy();
        n.teachers.add(new Teacher(cycle, day));
        act(n);
        return n.teachers.size() - 1;
    }

    int addRoom(int equipment) {
        if (equipment < 0 || equipment > 15) {
            return BAD;
        }
        if (w.rooms.size() == 6) {
            return FULL;
        }
        World n = w.copy();
        n.rooms.add(equipment);
        act(n);
        return n.rooms.size() - 1;
    }

    int addCourse(int group, int part, int teacher, int equipment, int lessons) {
        if (w.noGroup(group) || w.noTeacher(teacher)) {
            return UNKNOWN;
        }
        if (part < 0 || part > 2 || equipment < 0 || equipment > 15 || lessons < 1 || lessons > 10) {
            return BAD;
        }
        if (w.courses.size() == 20) {
            return FULL;
        }
        World n = w.copy();
        n.courses.add(new Course(group, NONE, part, teacher, equipment, lessons));
        act(n);
        return n.courses.size() - 1;
    }

    int join(int course, int group) {
        if (w.noCourse(course) || w.noGroup(group)) {
            return UNKNOWN;
        }
        Course c = w.courses.get(course);
        if (c.part != 0 || c.joined != NONE || c.group == group || w.placed(course) != 0) {
            return NOT;
        }
        World n = w.copy();
        n.courses.set(course, new Course(c.group, group, c.part, c.teacher, c.equipment, c.lessons));
        act(n);
        return c.lessons;
    }

    int bar(int teacher, int slot, boolean is) {
        if (w.noTeacher(teacher) || w.noSlot(slot)) {
            return UNKNOWN;
        }
        if (is && teacherAt(teacher, slot) != NONE) {
            return NOT;
        }
        World n = w.copy();
        Barred b = new Barred(teacher, slot);
        if (!(is ? n.bars.add(b) : n.bars.remove(b))) {
            return NONE;
        }
        act(n);
        return (int) n.bars.stream().filter(o -> o.teacher == teacher).count();
    }

    int place(int course, int slot, int room) {
        World n = w.copy();
        int answer = n.place(course, slot, room);
        if (answer > 0) {
            act(n);
        }
        return answer;
    }

    int takeAway(int course, int slot) {
        World n = w.copy();
        if (!n.lessons.removeIf(l -> l.course == course && l.slot == slot)) {
            return UNKNOWN;
        }
        act(n);
        return n.placed(course);
    }

    int move(int course, int slot, int to, int room) {
        Lesson l = w.lesson(course, slot);
        if (l == null || w.noSlot(to) || w.noRoom(room)) {
            return UNKNOWN;
        }
        World n = w.copy();
        n.lessons.remove(l);
        if (n.place(course, to, room) < 0) {
            return NOT;
        }
        if (to == slot && room == l.room) {
            return NONE;
        }
        act(n);
        return l.room;
    }

    int swap(int course, int slot, int other, int otherSlot) {
        Lesson a = w.lesson(course, slot);
        Lesson b = w.lesson(other, otherSlot);
        if (a == null || b == null) {
            return UNKNOWN;
        }
        World n = w.copy();
        n.lessons.remove(a);
        n.lessons.remove(b);
        if (!a.equals(b) && (n.place(course, otherSlot, a.room) < 0 || n.place(other, slot, b.room) < 0)) {
            return NOT;
        }
        if (slot == otherSlot) {
            return NONE;
        }
        act(n);
        return (int) n.lessons.stream().filter(l -> l.slot == slot || l.slot == otherSlot).count();
    }

    int fill(int course) {
        if (w.noCourse(course)) {
            return UNKNOWN;
        }
        World n = w.copy();
        int added = 0;
        boolean more = true;
        while (more) {
            more = false;
            for (int at = 0; at < n.days * n.periods * n.rooms.size() && !more; at++) {
                more = n.place(course, at / n.rooms.size(), at % n.rooms.size()) > 0;
            }
            added += more ? 1 : 0;
        }
        if (added == 0) {
            return NONE;
        }
        act(n);
        return added;
    }

    int type(char character) {
        if (text.length() == 60) {
            return FULL;
        }
        text += character;
        return text.length();
    }

    int clearText() {
        int was = text.length();
        text = "";
        return was;
    }

    private static final Pattern PLACING = Pattern.compile("(0|[1-9][0-9]?)@(0|[1-9][0-9]?)r([0-9])");

    private static boolean isText(String s) {
        for (String placing : s.split(";", -1)) {
            if (!PLACING.matcher(placing).matches()) {
                return false;
            }
        }
        return true;
    }

    /** Whether some text of placings begins with this: one of a few ends makes it whole. */
    private static boolean begins(String s) {
        for (String end : new String[] {"", "0", "r0", "0r0", "@0r0", "0@0r0"}) {
            if (isText(s + end)) {
                return true;
            }
        }
        return false;
    }

    int readPlacings() {
        if (!isText(text)) {
            int fault = 0;
            while (fault < text.length() && begins(text.substring(0, fault + 1))) {
                fault++;
            }
            return -100 - fault;
        }
        World n = w.copy();
        String[] all = text.split(";");
        for (String placing : all) {
            Matcher m = PLACING.matcher(placing);
            m.matches();
            int answer = n.place(Integer.parseInt(m.group(1)), Integer.parseInt(m.group(2)), Integer.parseInt(m.group(3)));
            if (answer < 0) {
                return answer;
            }
        }
        act(n);
        return all.length;
    }

    int undo() {
        if (past.isEmpty()) {
            return NONE;
        }
        w = past.remove(past.size() - 1);
        return past.size();
    }

    int keep() {
        kept = w;
        return w.lessons.size();
    }

    int restore() {
        if (kept == null) {
            return NONE;
        }
        act(kept);
        return w.lessons.size();
    }

    int reason(int course, int slot, int room) {
        return w.noCourse(course) || w.noSlot(slot) || w.noRoom(room) ? UNKNOWN : w.reason(course, slot, room);
    }

    int course(int course, int what) {
        if (w.noCourse(course)) {
            return UNKNOWN;
        }
        if (what < 0 || what > 7) {
            return BAD;
        }
        Course c = w.courses.get(course);
        int free = 0;
        for (int slot = 0; what == 7 && slot < w.days * w.periods; slot++) {
            for (int room = 0; room < w.rooms.size(); room++) {
                free += w.reason(course, slot, room) == 0 ? 1 : 0;
            }
        }
        return new int[] {c.group, c.joined, c.part, c.teacher, c.equipment, c.lessons, w.placed(course), free}[what];
    }

    int lessonAt(int course, int place) {
        if (w.noCourse(course)) {
            return UNKNOWN;
        }
        if (place < 0) {
            return BAD;
        }
        return w.lessons.stream().filter(l -> l.course == course).map(l -> 10 * l.slot + l.room)
                .sorted().skip(place).findFirst().orElse(NONE);
    }

    int groupAt(int group, int part, int slot) {
        if (w.noGroup(group) || w.noSlot(slot)) {
            return UNKNOWN;
        }
        if (part < 0 || part > 2) {
            return BAD;
        }
        return w.lessons.stream().filter(l -> l.slot == slot && w.takesPart(w.of(l), group, part))
                .map(l -> l.course).sorted().findFirst().orElse(NONE);
    }

    int roomAt(int room, int slot) {
        if (w.noRoom(room) || w.noSlot(slot)) {
            return UNKNOWN;
        }
        return w.lessons.stream().filter(l -> l.slot == slot && l.room == room)
                .map(l -> l.course).findFirst().orElse(NONE);
    }

    int teacherAt(int teacher, int slot) {
        if (w.noTeacher(teacher) || w.noSlot(slot)) {
            return UNKNOWN;
        }
        return w.lessons.stream().filter(l -> l.slot == slot && w.of(l).teacher == teacher)
                .map(l -> l.course).findFirst().orElse(NONE);
    }

    int teacher(int teacher, int what) {
        if (w.noTeacher(teacher)) {
            return UNKNOWN;
        }
        if (what < 0 || what > 7) {
            return BAD;
        }
        Teacher t = w.teachers.get(teacher);
        Set<Integer> slots = new TreeSet<>();
        int[] ofDay = new int[8];
        for (Lesson l : w.lessons) {
            if (w.of(l).teacher == teacher) {
                slots.add(l.slot);
                ofDay[l.slot / w.periods]++;
            }
        }
        int most = 0;
        for (int n : ofDay) {
            most = Math.max(most, n);
        }
        List<Course> his = w.courses.stream().filter(c -> c.teacher == teacher).toList();
        int bars = (int) w.bars.stream().filter(b -> b.teacher == teacher).count();
        int all = his.stream().mapToInt(Course::lessons).sum();
        return new int[] {t.cycle, t.day, slots.size(), his.size(), bars, most, w.windows(slots), all}[what];
    }

    int group(int group, int half, int what) {
        if (w.noGroup(group)) {
            return UNKNOWN;
        }
        if (half < 1 || half > 2 || what < 0 || what > 2) {
            return BAD;
        }
        Set<Integer> slots = new TreeSet<>();
        for (Lesson l : w.lessons) {
            if (w.takesPart(w.of(l), group, half)) {
                slots.add(l.slot);
            }
        }
        int missing = 0;
        for (int course = 0; course < w.courses.size(); course++) {
            if (w.takesPart(w.courses.get(course), group, half)) {
                missing += w.courses.get(course).lessons - w.placed(course);
            }
        }
        return new int[] {slots.size(), w.windows(slots), missing}[what];
    }

    int room(int room, int what) {
        if (w.noRoom(room)) {
            return UNKNOWN;
        }
        if (what < 0 || what > 1) {
            return BAD;
        }
        return what == 0 ? w.rooms.get(room) : (int) w.lessons.stream().filter(l -> l.room == room).count();
    }

    int dayOf(int date) {
        if (date < 0 || date > 399) {
            return BAD;
        }
        if (w.holidays.contains(date)) {
            return NONE;
        }
        return (date - (int) w.holidays.stream().filter(h -> h < date).count()) % w.days;
    }

    int nextDate(int date, int day) {
        if (date < 0 || date > 399 || day < 0 || day >= w.days) {
            return BAD;
        }
        for (int later = date; later < 400; later++) {
            if (dayOf(later) == day) {
                return later;
            }
        }
        return NONE;
    }

    int count(int what) {
        if (what < 0 || what > 10) {
            return BAD;
        }
        int all = w.courses.stream().mapToInt(Course::lessons).sum();
        return new int[] {w.days, w.periods, w.groups, w.teachers.size(), w.rooms.size(), w.courses.size(),
            w.lessons.size(), all - w.lessons.size(), w.holidays.size(), past.size(), text.length()}[what];
    }
}

import java.util.ArrayList;
import java.util.List;
import java.util.function.Supplier;
import java.util.function.ToIntFunction;

/**
 * Calls that change nothing: an object that was called is put beside one that
 * was not, now, after each undo, after restore and after readPlacings.
 */
final class Refused {
    /** So many questions are put to one object, which is used for 512 calls at most. */
    private static final int QUESTIONS = 250;
    private static final int UNDOS = 4;

    private record Question(String call, ToIntFunction<CycleTimetable> asked) {
    }

    private Refused() {
    }

    /** The call must answer this, and leave the object as it was. */
    static void due(String call, Supplier<CycleTimetable> made, ToIntFunction<CycleTimetable> refused, int answer) {
        Check.due(call, refused.applyAsInt(made.get()), answer);
        for (int undos = 0; undos <= UNDOS; undos++) {
            int times = undos;
            compare(call + ", undo " + times + " times", made, refused, x -> undo(x, times));
        }
        compare(call + ", restore", made, refused, CycleTimetable::restore);
        compare(call + ", readPlacings", made, refused, CycleTimetable::readPlacings);
        compare(call + ", an act and undo", made, refused, x -> x.holiday(398, true) + 1000 * x.undo());
    }

    private static int undo(CycleTimetable x, int times) {
        int answer = 0;
        for (int i = 0; i < times; i++) {
            answer = 10 * answer + x.undo();
        }
        return answer;
    }

    private static void compare(String name, Supplier<CycleTimetable> made,
            ToIntFunction<CycleTimetable> refused, ToIntFunction<CycleTimetable> way) {
        CycleTimetable sample = made.get();
        int due = way.applyAsInt(sample);
        List<Question> all = questions(sample);
        for (int from = 0; from < all.size(); from += QUESTIONS) {
            CycleTimetable called = made.get();
            CycleTimetable other = made.get();
            refused.applyAsInt(called);
            Check.due(name, way.applyAsInt(called), due);
            way.applyAsInt(other);
            for (Question q : all.subList(from, Math.min(all.size(), from + QUESTIONS))) {
                Check.due(name + ", " + q.call, q.asked.applyAsInt(called), q.asked.applyAsInt(other));
            }
        }
    }

    private static List<Question> questions(CycleTimetable x) {
        List<Question> all = new ArrayList<>();
        int slots = x.count(0) * x.count(1);
        for (int i = 0; i <= 10; i++) {
            int what = i;
            all.add(new Question("count(" + what + ")", y -> y.count(what)));
        }
        for (int i = 0; i < 12; i++) {
            int date = i < 9 ? i : 388 + i;
            all.add(new Question("dayOf(" + date + ")", y -> y.dayOf(date)));
            all.add(new Question("nextDate(" + date + ", 1)", y -> y.nextDate(date, 1)));
        }
        askOfCourses(all, x.count(5), slots, x.count(4));
        askOfGroups(all, x.count(2), slots);
        askOfTeachersAndRooms(all, x.count(3), x.count(4), slots);
        return all;
    }

    private static void askOfCourses(List<Question> all, int courses, int slots, int rooms) {
        for (int i = 0; i < courses; i++) {
            int course = i;
            for (int j = 0; j <= 7; j++) {
                int what = j;
                all.add(new Question("course(" + course + ", " + what + ")", y -> y.course(course, what)));
                all.add(new Question("lessonAt(" + course + ", " + what + ")", y -> y.lessonAt(course, what)));
            }
            for (int j = 0; j < slots; j++) {
                int slot = j;
                int room = (course + slot) % Math.max(1, rooms);
                all.add(new Question("reason(" + course + ", " + slot + ", " + room + ")",
                        y -> y.reason(course, slot, room)));
            }
        }
    }

    private static void askOfGroups(List<Question> all, int groups, int slots) {
        for (int i = 0; i < groups; i++) {
            int group = i;
            for (int j = 0; j < 6; j++) {
                int half = 1 + j / 3;
                int what = j % 3;
                all.add(new Question("group(" + group + ", " + half + ", " + what + ")",
                        y -> y.group(group, half, what)));
            }
            for (int j = 0; j < 3 * slots; j++) {
                int part = j % 3;
                int slot = j / 3;
                all.add(new Question("groupAt(" + group + ", " + part + ", " + slot + ")",
                        y -> y.groupAt(group, part, slot)));
            }
        }
    }

    private static void askOfTeachersAndRooms(List<Question> all, int teachers, int rooms, int slots) {
        for (int i = 0; i < teachers; i++) {
            int teacher = i;
            for (int j = 0; j <= 7; j++) {
                int what = j;
                all.add(new Question("teacher(" + teacher + ", " + what + ")", y -> y.teacher(teacher, what)));
            }
            for (int j = 0; j < slots; j++) {
                int slot = j;
                all.add(new Question("teacherAt(" + teacher + ", " + slot + ")", y -> y.teacherAt(teacher, slot)));
            }
        }
        for (int i = 0; i < rooms; i++) {
            int room = i;
            all.add(new Question("room(" + room + ", 0)", y -> y.room(room, 0)));
            all.add(new Question("room(" + room + ", 1)", y -> y.room(room, 1)));
            for (int j = 0; j < slots; j++) {
                int slot = j;
                all.add(new Question("roomAt(" + room + ", " + slot + ")", y -> y.roomAt(room, slot)));
            }
        }
    }
}

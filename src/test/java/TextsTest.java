/** Promises 15 to 17: the text, and the placings that are read from it. */
public final class TextsTest {
    public static void main(String[] args) {
        promise15();
        promise16();
        faults();
        promise17();
        allOrNone();
        fullText();
        shorterText();
        Check.end();
    }

    private static CycleTimetable school() {
        CycleTimetable x = new CycleTimetable();
        x.addGroup();
        x.addTeacher(40, 6);
        x.addRoom(0);
        x.addRoom(0);
        for (int i = 0; i < 12; i++) {
            x.addCourse(0, 0, 0, 0, 10);
        }
        return x;
    }

    private static void promise15() {
        CycleTimetable x = new CycleTimetable();
        char[] any = {'0', '@', ' ', (char) 0, (char) 65535, (char) 300};
        for (int i = 0; i < 60; i++) {
            Check.due("15: type", x.type(any[i % any.length]), i + 1);
        }
        Check.due("15: full", x.type('0'), -3);
        Check.due("15: length", x.count(10), 60);
        Check.due("15: no act", x.count(9), 0);
        Check.due("15: undo", x.undo(), -5);
    }

    private static void promise16() {
        CycleTimetable x = new CycleTimetable();
        Check.due("16: empty", x.clearText(), 0);
        Check.write(x, "0@0");
        Check.due("16: three", x.clearText(), 3);
        Check.due("16: length", x.count(10), 0);
        Check.due("16: empty again", x.clearText(), 0);
        Check.due("16: no act", x.count(9), 0);
        Check.due("16: type again", x.type('x'), 1);
        x.clearText();
        Check.due("16: nothing is left", x.readPlacings(), -100);
    }

    private static void fault(String text, int index) {
        CycleTimetable x = school();
        Check.due("17: read " + text, Check.read(x, text), -100 - index);
        Check.due("17: nothing is placed", x.count(6), 0);
        Check.due("17: the text stays", x.count(10), text.length());
        Check.due("17: nothing recorded", x.count(9), 4);
    }

    private static void faults() {
        fault("", 0);
        fault("0", 1);
        fault("1", 1);
        fault("12", 2);
        fault("0@", 2);
        fault("0@0", 3);
        fault("0@12", 4);
        fault("0@0r", 4);
        fault("0@0r0;", 6);
        fault("0@0r0;1", 7);
        fault(";", 0);
        fault("@0r0", 0);
        fault("x", 0);
        fault("-1@0r0", 0);
        fault(" 0@0r0", 0);
        fault("00@0r0", 1);
        fault("01@0r0", 1);
        fault("123@0r0", 2);
        fault("0r0r0", 1);
        fault("0;", 1);
        fault("0@r0", 2);
        fault("0@00r0", 3);
        fault("0@01r0", 3);
        fault("0@123r0", 4);
        fault("0@1@0", 3);
        fault("0@1R0", 3);
        fault("0@1rr", 4);
        fault("0@1r;", 4);
        fault("0@1r00", 5);
        fault("0@1r0 ", 5);
        fault("0@1r0,1@2r0", 5);
        fault("0@1r0;;", 6);
        fault("0@1r0;0@2r0;03@4r0", 13);
        fault("0@1r:", 4);
        fault("0@1r/", 4);
        fault("0@" + (char) 0x0661 + "r0", 2);
        fault("0@" + (char) ('1' + 256) + "r0", 2);
        fault("0" + (char) ('@' + 256) + "1r0", 1);
        // The fault is told before any placing is tried.
        fault("99@99r9;x", 8);
        fault("0@1r0;0@1r0;", 12);
    }

    private static void promise17() {
        CycleTimetable x = school();
        Check.due("17: one", Check.read(x, "0@0r0"), 1);
        Check.due("17: the text stays", x.count(10), 5);
        Check.due("17: once more", x.readPlacings(), -4);
        Check.due("17: two digits", Check.read(x, "11@29r1"), 1);
        Check.due("17: lessonAt", x.lessonAt(11, 0), 291);
        Check.due("17: ten", Check.read(x, "10@10r0;9@9r1;0@20r1"), 3);
        Check.due("17: one act", x.count(9), 4);
        Check.due("17: lessonAt", x.lessonAt(10, 0), 100);
        Check.due("17: lessonAt", x.lessonAt(9, 0), 91);
        Check.due("17: lessonAt", x.lessonAt(0, 1), 201);
        Check.due("17: undo", x.undo(), 3);
        Check.due("17: all three are undone", x.count(6), 2);
        Check.due("17: undo leaves the text", x.count(10), 20);
    }

    private static void allOrNone() {
        CycleTimetable x = school();
        Check.due("17: no course", Check.read(x, "0@0r0;12@1r0"), -1);
        Check.due("17: none", x.count(6), 0);
        Check.due("17: no slot", Check.read(x, "0@0r0;0@30r0"), -1);
        Check.due("17: no room", Check.read(x, "0@0r0;0@1r2"), -1);
        Check.due("17: not possible", Check.read(x, "0@0r0;1@0r1"), -4);
        Check.due("17: third of a day", Check.read(x, "0@0r0;0@1r0;0@2r0"), -4);
        Check.due("17: first error", Check.read(x, "0@0r0;0@0r0;0@1r9"), -4);
        Check.due("17: first error", Check.read(x, "0@0r0;0@1r9;0@0r0"), -1);
        Check.due("17: none", x.count(6), 0);
        Check.due("17: none", x.roomAt(0, 0), -5);
        Check.due("17: nothing recorded", x.undo(), 3);
        Check.due("17: the course is gone", Check.read(x, "11@0r0"), -1);
        Check.due("17: this one is not", Check.read(x, "10@0r0"), 1);
    }

    /** Ten placings are the most that a text can hold. */
    private static void fullText() {
        String ten = "0@0r0;1@1r0;2@2r0;3@3r0;4@4r0;5@5r0;6@6r0;7@7r0;8@8r0;9@9r0";
        CycleTimetable x = school();
        Check.due("17: ten placings", Check.read(x, ten), 10);
        Check.due("17: the last one", x.lessonAt(9, 0), 90);
        Check.due("17: the first one", x.lessonAt(0, 0), 0);
        fault(ten + ";", 60);
        fault(ten + "0", 59);
        CycleTimetable y = school();
        Check.write(y, ten + ";0");
        Check.due("17: no more than 60", y.readPlacings(), -160);
    }

    /** What stood behind the end of the text before it was emptied is not read. */
    private static void shorterText() {
        String whole = "1@12r1;0@3r0";
        for (int length = 0; length < whole.length(); length++) {
            CycleTimetable x = school();
            Check.write(x, whole);
            boolean isWhole = length == 6;
            Check.due("17: " + length + " signs", Check.read(x, whole.substring(0, length)), isWhole ? 1 : -100 - length);
        }
    }
}

/** Boundary cases of promises 15 to 17. */
public final class TextsBoundsTest {
    /** Ten placings, of 60 signs together, that can all be placed in Schools.full(). */
    private static final String TEN =
            "0@0r0;1@0r1;2@0r2;3@0r3;4@0r4;5@0r5;6@1r0;7@1r1;8@1r2;9@10r3";
    private static final String DIGITS = "0123456789";

    public static void main(String[] args) {
        sixtyCharacters();
        noSixtyFirstCharacter();
        anyCharacterIsTyped();
        typingIsNoAct();
        clearTellsTheLength();
        clearOfTheEmptyText();
        clearOfTheFullText();
        emptyTextEndsTooEarly();
        charactersAtEachPlace();
        charactersBehindOnePlacing();
        textsThatEndTooEarly();
        zerosInFront();
        numbersOfTwoDigits();
        roomsOfOneDigit();
        faultsAtTheEndOfTheFullText();
        tenPlacings();
        oneToTenPlacings();
        faultsBeforeErrors();
        coursesSlotsAndRoomsThereAre();
        errorOfTheFirst();
        errorWhenItsTurnComes();
        allOrNone();
        oneActAndTheTextStays();
        Check.end();
    }

    /** A school in which the placings of TEN can be placed, with this text. */
    private static CycleTimetable full(String text) {
        CycleTimetable x = Schools.full();
        Check.write(x, text);
        return x;
    }

    private static CycleTimetable busy(String text) {
        CycleTimetable x = Schools.busy();
        Check.write(x, text);
        return x;
    }

    private static void refused(String text, int answer) {
        Refused.due("17: " + text, () -> busy(text), CycleTimetable::readPlacings, answer);
    }

    // ---- promise 15

    private static void sixtyCharacters() {
        CycleTimetable x = new CycleTimetable();
        for (int length = 1; length <= 60; length++) {
            Check.due("15: type", x.type('0'), length);
            Check.due("15: the length", x.count(10), length);
        }
        Check.due("15: the length stays", x.type('0'), -3);
        Check.due("15: the length stays", x.count(10), 60);
    }

    private static void noSixtyFirstCharacter() {
        for (char character : new char[] {'0', ';', 'x', 0, 65535}) {
            Refused.due("15: there are 60", () -> full(TEN), x -> x.type(character), -3);
            Refused.due("15: there are 60", () -> full("x".repeat(60)), x -> x.type(character), -3);
        }
        CycleTimetable x = full("x".repeat(59));
        Check.due("15: the sixtieth", x.type('x'), 60);
        Check.due("15: no more", x.type('x'), -3);
    }

    private static void anyCharacterIsTyped() {
        char[] any = {0, 1, '\t', '\n', ' ', '0', '9', '@', 'r', ';', 'R', 127, 128, 255, 256, 65535};
        CycleTimetable x = new CycleTimetable();
        for (int i = 0; i < any.length; i++) {
            Check.due("15: character " + (int) any[i], x.type(any[i]), i + 1);
        }
    }

    private static void typingIsNoAct() {
        CycleTimetable x = Schools.busy();
        Check.due("15: type", x.type('x'), 6);
        Check.due("15: nothing is recorded", x.count(9), 4);
        x.undo();
        Check.due("15: undo leaves the text", x.count(10), 6);
        x.restore();
        Check.due("15: restore leaves the text", x.count(10), 6);
        Check.due("15: the fault is what was typed", x.readPlacings(), -105);
    }

    // ---- promise 16

    private static void clearTellsTheLength() {
        for (int length = 0; length <= 60; length++) {
            CycleTimetable x = new CycleTimetable();
            Check.write(x, "0".repeat(length));
            Check.due("16: clearText()", x.clearText(), length);
            Check.due("16: it is empty", x.count(10), 0);
            Check.due("16: it is empty", x.clearText(), 0);
            Check.due("16: nothing is recorded", x.count(9), 0);
        }
    }

    private static void clearOfTheEmptyText() {
        Refused.due("16: an empty text", () -> busy(""), CycleTimetable::clearText, 0);
    }

    private static void clearOfTheFullText() {
        CycleTimetable x = full(TEN);
        Check.due("16: sixty", x.clearText(), 60);
        Check.due("16: nothing to read", x.readPlacings(), -100);
        Check.due("16: the first character again", x.type('0'), 1);
        Check.due("16: what was there is gone", x.readPlacings(), -101);
        Check.due("16: nothing is recorded", x.count(9), 4);
    }

    // ---- promise 17

    private static void emptyTextEndsTooEarly() {
        refused("", -100);
    }

    private static int read(String text) {
        CycleTimetable x = Schools.busy();
        return Check.read(x, text);
    }

    /** All characters at each place of a placing: what is allowed there, and all that is not. */
    private static void charactersAtEachPlace() {
        next("", DIGITS);
        next("0", "@");
        next("1", DIGITS + "@");
        next("9", DIGITS + "@");
        next("10", "@");
        next("99", "@");
        next("4@", DIGITS);
        next("4@0", "r");
        next("4@1", DIGITS + "r");
        next("4@9", DIGITS + "r");
        next("4@10", "r");
        next("4@99", "r");
        next("4@1r", DIGITS);
        next("4@1r0", ";");
        next("4@11r9", ";");
        next("44@1r0", ";");
        next("4@1r0;", DIGITS);
    }

    private static void charactersBehindOnePlacing() {
        String one = "0@5r0;";
        next(one + "0", "@");
        next(one + "1", DIGITS + "@");
        next(one + "10", "@");
        next(one + "4@", DIGITS);
        next(one + "4@0", "r");
        next(one + "4@1", DIGITS + "r");
        next(one + "4@10", "r");
        next(one + "4@1r", DIGITS);
        next(one + "4@1r0", ";");
        next(one + one, DIGITS);
    }

    private static void next(String text, String allowed) {
        for (char character = 0; character <= 300; character++) {
            boolean isAllowed = allowed.indexOf(character) >= 0;
            boolean isWhole = isAllowed && text.endsWith("r");
            if (!isWhole) {
                int fault = isAllowed ? text.length() + 1 : text.length();
                Check.due("17: " + text + " and character " + (int) character, read(text + character), -100 - fault);
            }
        }
        Check.due("17: " + text + " and the last character", read(text + (char) 65535), -100 - text.length());
    }

    private static void textsThatEndTooEarly() {
        String two = "10@11r2;3@4r5";
        for (int length = 0; length < two.length(); length++) {
            if (length != 7) {
                refused(two.substring(0, length), -100 - length);
            }
        }
        refused(two.substring(0, 7), -1);
        refused(two, -1);
    }

    private static void zerosInFront() {
        Check.due("17: the single digit 0", read("0@5r0"), 1);
        Check.due("17: the single digit 0", Check.read(new CycleTimetable(), "0@0r0"), -1);
        refused("00@5r0", -101);
        refused("01@5r0", -101);
        refused("0@00r0", -103);
        refused("0@05r0", -103);
        refused("0@5r00", -105);
        refused("000", -101);
    }

    private static void numbersOfTwoDigits() {
        Check.due("17: ten", Check.read(Schools.full(), "10@10r0"), 1);
        Check.due("17: the last course and slot", Check.read(Schools.full(), "19@47r5"), 1);
        CycleTimetable x = full("19@47r5");
        x.readPlacings();
        Check.due("17: it is placed", x.lessonAt(19, 0), 475);
        refused("99@5r0", -1);
        refused("0@99r0", -1);
        refused("100@5r0", -102);
        refused("0@100r0", -104);
    }

    private static void roomsOfOneDigit() {
        Check.due("17: the first room", read("0@5r0"), 1);
        Check.due("17: the last room", read("0@5r2"), 1);
        refused("0@5r3", -1);
        refused("0@5r9", -1);
        refused("0@5r10", -105);
    }

    private static void faultsAtTheEndOfTheFullText() {
        String nine = TEN.substring(0, 54);
        Refused.due("17: the last character", () -> full(TEN.substring(0, 59) + "x"), CycleTimetable::readPlacings, -159);
        Refused.due("17: one too few", () -> full(TEN.substring(0, 59)), CycleTimetable::readPlacings, -159);
        Refused.due("17: one behind", () -> full(nine + "9@1r3;"), CycleTimetable::readPlacings, -160);
        Refused.due("17: too early", () -> full(nine + "12@12r"), CycleTimetable::readPlacings, -160);
        Refused.due("17: too early", () -> full("0@0r0;".repeat(10)), CycleTimetable::readPlacings, -160);
        Refused.due("17: the last placing", () -> full("0@0r0;".repeat(9) + "0@0r0"), CycleTimetable::readPlacings, -4);
    }

    private static void tenPlacings() {
        CycleTimetable x = full(TEN);
        Check.due("17: 60 characters", x.count(10), 60);
        Check.due("17: ten", x.readPlacings(), 10);
        Check.due("17: the lessons", x.count(6), 10);
        int[] due = {0, 1, 2, 3, 4, 5, 10, 11, 12, 103};
        for (int course = 0; course < due.length; course++) {
            Check.due("17: the lesson of course " + course, x.lessonAt(course, 0), due[course]);
        }
    }

    private static void oneToTenPlacings() {
        for (int placings = 1; placings <= 10; placings++) {
            CycleTimetable x = full(TEN.substring(0, Math.min(60, 6 * placings - 1) + placings / 10));
            Check.due("17: " + placings + " placings", x.readPlacings(), placings);
            Check.due("17: the lessons", x.count(6), placings);
            Check.due("17: the lesson of the last", x.course(placings - 1, 6), 1);
            Check.due("17: the lesson of the next", x.course(placings, 6), 0);
        }
    }

    private static void faultsBeforeErrors() {
        refused("9@5r0;x", -106);
        refused("0@0r0;", -106);
        refused("0@5r0;0@5r0;0@5r", -116);
        refused("99@99r9;0@0r0x", -113);
    }

    private static void coursesSlotsAndRoomsThereAre() {
        refused("5@5r0", -1);
        refused("0@9r0", -1);
        refused("0@5r3", -1);
        Check.due("17: the last ones", read("4@8r2"), 1);
        Refused.due("17: no course 20", () -> full("20@47r5"), CycleTimetable::readPlacings, -1);
        Refused.due("17: no slot 48", () -> full("19@48r5"), CycleTimetable::readPlacings, -1);
        Refused.due("17: no room 6", () -> full("19@47r6"), CycleTimetable::readPlacings, -1);
        Check.due("17: nothing is there at first", Check.read(new CycleTimetable(), "0@0r0"), -1);
    }

    private static void errorOfTheFirst() {
        for (int i = 1; i <= 9; i++) {
            int reason = i;
            Refused.due("17: reason " + reason, () -> Schools.against(reason), CycleTimetable::readPlacings, -4);
        }
        Check.due("17: no reason", Schools.against(0).readPlacings(), 1);
        refused("0@0r0;5@5r0", -4);
        refused("5@5r0;0@0r0", -1);
        refused("0@5r0;0@5r0;5@5r0", -4);
        refused("0@5r0;5@5r0;0@5r0", -1);
        refused("0@0r3", -1);
    }

    /** Placings that can be placed alone, and not behind the ones before them. */
    private static void errorWhenItsTurnComes() {
        String[] texts = {"4@6r0;4@1r0", "1@3r0;1@5r0;1@4r0", "2@8r0;4@8r1", "0@3r0;0@4r1;0@5r0",
            "0@7r0;3@7r1", "1@7r0;0@7r0"};
        for (String text : texts) {
            refused(text, -4);
            int last = text.lastIndexOf(';');
            Check.due("17: " + text + ", alone", read(text.substring(last + 1)), 1);
            Check.due("17: " + text + ", without the last", read(text.substring(0, last)), text.length() / 6);
        }
        CycleTimetable x = Schools.busy();
        x.addTeacher(1, 1);
        x.addCourse(0, 0, 3, 0, 3);
        Check.due("17: more than the most of a cycle", Check.read(x, "5@3r0;5@6r0"), -4);
        Check.due("17: the most of a cycle", Check.read(x, "5@6r0"), 1);
    }

    private static void allOrNone() {
        for (int placings = 2; placings <= 10; placings++) {
            String before = TEN.substring(0, 6 * (placings - 1));
            Refused.due("17: the last of " + placings, () -> full(before + "0@0r0"), CycleTimetable::readPlacings, -4);
            Refused.due("17: the last of " + placings, () -> full(before + "0@1r6"), CycleTimetable::readPlacings, -1);
        }
    }

    private static void oneActAndTheTextStays() {
        CycleTimetable x = full(TEN);
        x.undo();
        x.undo();
        Check.due("17: ten", x.readPlacings(), 10);
        Check.due("17: one state", x.count(9), 3);
        Check.due("17: the text stays", x.count(10), 60);
        Check.due("17: it is read again", x.readPlacings(), -4);
        Check.due("17: undo", x.undo(), 2);
        Check.due("17: all are undone", x.count(6), 0);
        Check.due("17: the text stays", x.count(10), 60);
        Check.due("17: it is read again", x.readPlacings(), 10);
    }
}

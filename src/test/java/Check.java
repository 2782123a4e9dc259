/** Counts what is not as due, answers of calls above all, and types texts. */
final class Check {
    private static int wrong = 0;

    private Check() {
    }

    static void due(String call, long got, long want) {
        if (got != want) {
            wrong++;
            System.out.println(call + " answered " + got + ", due is " + want);
        }
    }

    static void must(boolean holds, String what) {
        if (!holds) {
            wrong++;
            System.out.println(what);
        }
    }

    /** Puts a text in place of the one that is there. */
    static void write(CycleTimetable x, String text) {
        x.clearText();
        for (int i = 0; i < text.length(); i++) {
            x.type(text.charAt(i));
        }
    }

    static int read(CycleTimetable x, String text) {
        write(x, text);
        return x.readPlacings();
    }

    /**
     * The first numbers on both sides that are not from least to most, the last
     * ones there are, and some that have the low bits of the least.
     */
    static int[] outside(int least, int most) {
        return new int[] {least - 1, most + 1, Integer.MIN_VALUE, Integer.MAX_VALUE,
            least + 1024, least + 65536, least - 65536};
    }

    static void end() {
        if (wrong != 0) {
            System.out.println(wrong + " things are not as due");
            System.exit(1);
        }
    }
}

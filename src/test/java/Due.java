/** Compares answers with those that are due, and tells each that is not. */
final class Due {
    static final int NONE = -1, BAD = -2, NO = -3, FULL = -4;
    static final int LOW = Integer.MIN_VALUE, HIGH = Integer.MAX_VALUE;

    private static String sentence = "";
    private static int answers = 0;
    private static int wrong = 0;

    private Due() {
    }

    /** What the document says: all that is due from here on is due by it. */
    static void sentence(String told) {
        sentence = told;
    }

    static void due(String what, long got, long want) {
        answers++;
        if (got != want) {
            fail(what + " answered " + got + ", due is " + want);
        }
    }

    static void due(String what, String got, String want) {
        answers++;
        if (!got.equals(want)) {
            fail(what + " is '" + got + "', due is '" + want + "'");
        }
    }

    static void dueFault(Probe x, int c, int r, int value, int why, int deep) {
        due("value of " + c + ", " + r, x.value(c, r), value);
        due("why of " + c + ", " + r, x.why(c, r), why);
        due("deep of " + c + ", " + r, x.deep(c, r), deep);
    }

    static void dueTerm(Probe x, int c, int r, int i, int... want) {
        for (int what = 0; what < want.length; what++) {
            due("term(" + c + ", " + r + ", " + i + ", " + what + ")", x.term(c, r, i, what), want[what]);
        }
    }

    static void fail(String message) {
        wrong++;
        if (wrong <= 50) {
            System.out.println("[" + sentence + "] " + message);
        }
    }

    /** Stands at the end of every test. */
    static void end() {
        System.out.println(wrong == 0 ? answers + " answers are as due" : wrong + " answers are not as due");
        if (wrong != 0) {
            System.exit(1);
        }
    }
}

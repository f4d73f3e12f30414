/** The states to go back to: which calls leave one, how many there can be, what comes back. */
public final class StateEdgeTest {
    public static void main(String[] args) {
        noneAtFirst();
        eachCallToldS();
        callsNotToldS();
        alsoIfNothingBecomesOther();
        sixAtMost();
        olderOnesLost();
        roundAndRound();
        allCellsComeBack();
        onlyCellsComeBack();
        refusedCallsLeaveNone();
        behindABack();
        Due.end();
    }

    private static void noneAtFirst() {
        Due.sentence("back: NO: none");
        Probe x = new Probe();
        for (int times = 1; times <= 3; times++) {
            Due.due("back", x.back(), Due.NO);
            Due.due("NO so often", x.told(1), times);
        }
        Due.due("STATES", x.told(4), 0);
        x.empties(0, 0);
        Due.due("one", x.back(), 0);
        Due.due("none again", x.back(), Due.NO);
    }

    private static void eachCallToldS() {
        Due.sentence("each call told S, if it is not refused, leaves one");
        Probe x = new Probe();
        x.types("B2+5");
        x.put(1, 1);
        Due.due("put", x.told(4), 1);
        x.copies(1, 1, 1, 1, 2, 2);
        Due.due("copies", x.told(4), 2);
        x.moves(1, 1, 1, 1, 0, 0);
        Due.due("moves", x.told(4), 3);
        x.comes(0, 0, 1);
        Due.due("comes", x.told(4), 4);
        x.goes(1, 0, 1);
        Due.due("goes", x.told(4), 5);
        x.empties(1, 3);
        Due.due("empties", x.told(4), 6);
        Due.due("back of empties", x.back(), 5);
        Due.due("it is there", x.written(1, 3), "B4+5");
        Due.due("back of goes", x.back(), 4);
        Due.due("both are there", x.count(0), 2);
        Due.due("back of comes", x.back(), 3);
        Due.due("row 1", x.written(0, 0), "A1+5");
        Due.due("back of moves", x.back(), 2);
        Due.due("B2", x.written(1, 1), "B2+5");
        Due.due("back of copies", x.back(), 1);
        Due.due("one cell", x.count(0), 1);
        Due.due("back of put", x.back(), 0);
        Due.due("no cell", x.count(0), 0);
    }

    private static void callsNotToldS() {
        Due.sentence("only calls told S leave one");
        Probe x = Probe.with(0, 0, "A1+#");
        x.type('+');
        x.clear();
        x.type('1');
        x.terms(0, 0);
        x.term(0, 0, 0, 0);
        x.shown(0, 0, 0);
        x.value(0, 0);
        x.why(0, 0);
        x.deep(0, 0);
        x.users(0, 0);
        x.count(3);
        x.told(4);
        x.digest();
        Due.due("one, by put", x.told(4), 1);
        Due.due("back leaves none itself", x.back(), 0);
        Due.due("none", x.told(4), 0);
    }

    private static void alsoIfNothingBecomesOther() {
        Due.sentence("leaves one, also if nothing becomes other by it");
        Probe x = Probe.with(0, 0, "A1+#");
        x.put(0, 0);
        Due.due("put of the same", x.told(4), 2);
        x.empties(3, 3);
        Due.due("empties of an EMPTY one", x.told(4), 3);
        x.comes(0, 5, 6);
        Due.due("comes behind all", x.told(4), 4);
        x.goes(1, 5, 1);
        Due.due("goes of EMPTY ones", x.told(4), 5);
        x.moves(0, 0, 1, 1, 0, 0);
        Due.due("moves onto itself", x.told(4), 6);
        Probe y = Probe.with(0, 0, "A1+#");
        y.copies(0, 0, 1, 1, 0, 0);
        Due.due("copies onto itself", y.told(4), 2);
        y.moves(4, 4, 1, 1, 5, 5);
        Due.due("moves of EMPTY ones", y.told(4), 3);
        y.copies(4, 4, 2, 2, 2, 2);
        Due.due("copies of EMPTY ones", y.told(4), 4);
        for (int left = 3; left >= 1; left--) {
            Due.due("back", y.back(), left);
            Due.due("the same", y.written(0, 0), "A1+#");
        }
    }

    private static void sixAtMost() {
        Due.sentence("6 at most");
        for (int times = 0; times <= 9; times++) {
            Probe x = new Probe();
            for (int i = 0; i < times; i++) {
                x.empties(i % 6, 0);
            }
            Due.due("after " + times, x.told(4), Math.min(times, 6));
            for (int left = Math.min(times, 6) - 1; left >= 0; left--) {
                Due.due("back", x.back(), left);
                Due.due("told", x.told(4), left);
            }
            Due.due("no more", x.back(), Due.NO);
        }
    }

    private static void olderOnesLost() {
        Due.sentence("6 at most, older ones lost");
        for (int times = 1; times <= 20; times++) {
            Probe x = counting(times);
            int oldest = Math.max(0, times - 6);
            for (int number = times - 1; number >= oldest; number--) {
                x.back();
                dueNumber(x, number);
            }
            Due.due("older", x.back(), Due.NO);
            dueNumber(x, oldest);
        }
    }

    private static void roundAndRound() {
        Due.sentence("STATES that were gone back to make room for others");
        for (int backs = 0; backs <= 6; backs++) {
            Probe x = counting(8);
            for (int i = 0; i < backs; i++) {
                x.back();
            }
            x.write(5, 5, "500");
            Due.due("one more", x.told(4), Math.min(6, 7 - backs));
            x.write(5, 5, "501");
            x.back();
            Due.due("the one that was put", x.written(5, 5), "500");
            x.back();
            Due.due("none of it", x.terms(5, 5), 0);
            dueNumber(x, 8 - backs);
        }
    }

    private static void allCellsComeBack() {
        Due.sentence("to go back to (all CELLS)");
        Probe x = new Probe();
        x.types("A$1:$F6+999+$B2+#");
        for (int cell = 0; cell < 36; cell++) {
            x.put(cell % 6, cell / 6);
        }
        long full = x.cellsDigest();
        x.goes(0, 0, 6);
        Due.due("all gone", x.count(0), 0);
        x.back();
        Due.due("after goes", x.cellsDigest(), full);
        x.moves(0, 0, 5, 6, 1, 0);
        x.back();
        Due.due("after moves", x.cellsDigest(), full);
        x.copies(0, 0, 6, 3, 0, 3);
        x.back();
        Due.due("after copies", x.cellsDigest(), full);
        x.empties(5, 5);
        x.back();
        Due.due("after empties", x.cellsDigest(), full);
        x.goes(1, 0, 3);
        long half = x.cellsDigest();
        x.comes(1, 0, 3);
        x.back();
        Due.due("after comes", x.cellsDigest(), half);
        x.back();
        Due.due("after both", x.cellsDigest(), full);
    }

    private static void onlyCellsComeBack() {
        Due.sentence("to go back to (all CELLS): THE TEXT, and how often refused, stay");
        Probe x = Probe.with(0, 0, "7");
        x.types("+8");
        x.type(-1);
        x.comes(0, 0, 6);
        x.back();
        Due.due("bytes", x.told(3), 3);
        Due.due("BAD", x.told(0), 1);
        Due.due("NO", x.told(1), 1);
        Due.due("the text", x.put(0, 0), 2);
        Due.due("A1", x.written(0, 0), "7+8");
    }

    private static void refusedCallsLeaveNone() {
        Due.sentence("each call told S, if it is not refused");
        Probe x = Probe.with(5, 5, "7");
        x.put(6, 0);
        x.empties(0, 6);
        x.comes(2, 0, 1);
        x.comes(0, 5, 1);
        x.goes(0, 1, 6);
        x.moves(0, 0, 7, 1, 0, 0);
        x.copies(0, 0, 1, 1, 6, 0);
        x.type('+');
        x.put(0, 0);
        Due.due("one, by put", x.told(4), 1);
        Due.due("back", x.back(), 0);
        Due.due("to the first", x.count(0), 0);
        Due.due("BAD", x.told(0), 6);
        Due.due("NO", x.told(1), 1);
    }

    private static void behindABack() {
        Due.sentence("A STATE back: how many can be yet");
        Probe x = counting(3);
        Due.due("back", x.back(), 2);
        x.write(0, 0, "77");
        Due.due("three again", x.told(4), 3);
        Due.due("back", x.back(), 2);
        dueNumber(x, 2);
        Due.due("back", x.back(), 1);
        dueNumber(x, 1);
        Due.due("back", x.back(), 0);
        dueNumber(x, 0);
        Due.due("back", x.back(), Due.NO);
        dueNumber(x, 0);
    }

    /** A1 got the numbers 1, 2 and on, one behind the other. */
    private static Probe counting(int times) {
        Probe x = new Probe();
        for (int number = 1; number <= times; number++) {
            x.write(0, 0, "" + number);
        }
        return x;
    }

    private static void dueNumber(Probe x, int number) {
        Due.due("A1", x.written(0, 0), number == 0 ? "" : "" + number);
    }
}

/** Blocks of cells that are moved and copied: each edge of source, target and sheet. */
public final class AreaEdgeTest {
    private static final String BROKEN = "#";

    /** Source and target: apart, side by side, in one another in each direction, the same, all. */
    private static final int[][] PAIRS = {
        {0, 0, 1, 1, 5, 5}, {5, 5, 1, 1, 0, 0}, {1, 1, 2, 2, 3, 3}, {1, 1, 2, 2, 2, 2}, {2, 2, 2, 2, 1, 1},
        {1, 2, 3, 2, 2, 1}, {2, 1, 3, 2, 1, 2}, {0, 0, 5, 5, 1, 1}, {1, 1, 5, 5, 0, 0}, {0, 0, 6, 6, 0, 0},
        {0, 2, 6, 1, 0, 3}, {0, 3, 6, 3, 0, 0}, {2, 0, 1, 6, 3, 0}, {1, 0, 5, 6, 0, 0}, {2, 2, 3, 3, 2, 2},
        {4, 0, 2, 1, 0, 5}, {0, 4, 1, 2, 5, 0}, {3, 3, 3, 3, 0, 0}, {0, 0, 3, 3, 3, 3}, {1, 1, 4, 1, 1, 2},
    };

    public static void main(String[] args) {
        areasWithinTheSheet();
        areasOutOfTheSheet();
        cellsMove();
        emptyOnesMoveToo();
        placesWhenMoved();
        blocksWhenMoved();
        blocksWhollyOrNot();
        movedFormulas();
        brokenByAMove();
        cellsAreCopied();
        emptyOnesAreCopiedToo();
        placesWhenCopied();
        blocksWhenCopied();
        blocksWhenCopiedByHand();
        othersStayWhenCopied();
        brokenInTheTarget();
        Due.end();
    }

    private static void areasWithinTheSheet() {
        Due.sentence("w by h CELLS, 1 .. 6 each; both within the sheet. BAD: not within the sheet, too");
        for (int w = 1; w <= 6; w++) {
            for (int h = 1; h <= 6; h++) {
                int c = 6 - w;
                int r = 6 - h;
                dueArea(0, 0, w, h, c, r, 0);
                dueArea(c, r, w, h, 0, 0, 0);
                dueArea(c, 0, w, h, 0, r, 0);
                dueArea(c + 1, 0, w, h, 0, 0, Due.BAD);
                dueArea(0, r + 1, w, h, 0, 0, Due.BAD);
                dueArea(0, 0, w, h, c + 1, 0, Due.BAD);
                dueArea(0, 0, w, h, 0, r + 1, Due.BAD);
            }
        }
    }

    private static void areasOutOfTheSheet() {
        Due.sentence("BAD: each number of a MOVE or a COPY, one by one");
        int[] others = {-1, 6, 7, Due.LOW, Due.LOW + 6, Due.HIGH - 6, Due.HIGH - 5, Due.HIGH - 1, Due.HIGH};
        for (int other : others) {
            dueArea(other, 0, 1, 1, 0, 0, Due.BAD);
            dueArea(0, other, 1, 1, 0, 0, Due.BAD);
            dueArea(0, 0, 1, 1, other, 0, Due.BAD);
            dueArea(0, 0, 1, 1, 0, other, Due.BAD);
            dueArea(other, other, other, other, other, other, Due.BAD);
            if (other != 6) {
                dueArea(0, 0, other, 1, 0, 0, Due.BAD);
                dueArea(0, 0, 1, other, 0, 0, Due.BAD);
                dueArea(5, 5, other, other, 5, 5, Due.BAD);
            }
        }
        dueArea(0, 0, 0, 1, 0, 0, Due.BAD);
        dueArea(0, 0, 1, 0, 0, 0, Due.BAD);
        dueArea(3, 3, 0, 0, 3, 3, Due.BAD);
    }

    private static void dueArea(int c, int r, int w, int h, int p, int q, int want) {
        String numbers = "(" + c + ", " + r + ", " + w + ", " + h + ", " + p + ", " + q + ")";
        Probe x = new Probe();
        Due.due("moves" + numbers, x.moves(c, r, w, h, p, q), want);
        Due.due("copies" + numbers, x.copies(c, r, w, h, p, q), want);
        Due.due("BAD so often", x.told(0), want == 0 ? 0 : 2);
        Due.due("STATES", x.told(4), want == 0 ? 2 : 0);
    }

    private static void cellsMove() {
        Due.sentence("CELLS of SOURCE come to TARGET, as they are; "
            + "those of SOURCE that are not in TARGET are EMPTY then");
        for (int[] m : PAIRS) {
            Probe x = numbered();
            Due.due("no TERM to break", x.moves(m[0], m[1], m[2], m[3], m[4], m[5]), 0);
            for (int cell = 0; cell < 36; cell++) {
                int c = cell % 6;
                int r = cell / 6;
                int want = 100 + cell;
                if (isIn(c, r, m[4], m[5], m[2], m[3])) {
                    want = 100 + 6 * (r - m[5] + m[1]) + c - m[4] + m[0];
                } else if (isIn(c, r, m[0], m[1], m[2], m[3])) {
                    want = 0;
                }
                dueNumber(x, c, r, want);
            }
        }
    }

    private static void emptyOnesMoveToo() {
        Due.sentence("CELLS of SOURCE come to TARGET, EMPTY ones too");
        Probe x = Probe.with(3, 3, "5");
        x.write(4, 3, "6");
        x.write(1, 1, "7");
        Due.due("moves", x.moves(0, 1, 2, 1, 3, 3), 0);
        Due.due("EMPTY came", x.terms(3, 3), 0);
        Due.due("7 came", x.written(4, 3), "7");
        Due.due("one is left", x.count(0), 1);
        Due.due("EMPTY onto it", x.moves(0, 0, 1, 1, 4, 3), 0);
        Due.due("none is left", x.count(0), 0);
    }

    private static void placesWhenMoved() {
        Due.sentence("a PLACE in SOURCE follows; else one in TARGET is BROKEN");
        for (int[] m : PAIRS) {
            for (int cell = 0; cell < 36; cell++) {
                int c = cell % 6;
                int r = cell / 6;
                int fixed = cell % 4;
                String want = name(c, r, fixed);
                if (isIn(c, r, m[0], m[1], m[2], m[3])) {
                    want = name(c + m[4] - m[0], r + m[5] - m[1], fixed);
                } else if (isIn(c, r, m[4], m[5], m[2], m[3])) {
                    want = BROKEN;
                }
                dueMoved(m, name(c, r, fixed), want);
            }
        }
    }

    private static void blocksWhenMoved() {
        Due.sentence("A BLOCK that lies in SOURCE wholly follows; "
            + "else one that lies in TARGET wholly is BROKEN; others stay");
        for (int[] m : PAIRS) {
            for (int first = 0; first < 36; first++) {
                for (int second = first; second < 36; second++) {
                    if (second % 6 >= first % 6) {
                        blockWhenMoved(m, first % 6, first / 6, second % 6, second / 6);
                    }
                }
            }
        }
    }

    private static void blockWhenMoved(int[] m, int c, int r, int toC, int toR) {
        int fixed = (c + 2 * r + 5 * toC + toR) % 16;
        String text = name(c, r, fixed) + ":" + name(toC, toR, fixed >> 2);
        String want = text;
        int by = m[4] - m[0];
        int down = m[5] - m[1];
        if (isIn(c, r, m[0], m[1], m[2], m[3]) && isIn(toC, toR, m[0], m[1], m[2], m[3])) {
            want = name(c + by, r + down, fixed) + ":" + name(toC + by, toR + down, fixed >> 2);
        } else if (isIn(c, r, m[4], m[5], m[2], m[3]) && isIn(toC, toR, m[4], m[5], m[2], m[3])) {
            want = BROKEN;
        }
        dueMoved(m, text, want);
    }

    /** The formula stands in the source's first cell: it moves, and is itself changed then. */
    private static void dueMoved(int[] m, String text, String want) {
        Probe x = Probe.with(m[0], m[1], text);
        String move = text + " moved " + java.util.Arrays.toString(m);
        Due.due(move + " is broken", x.moves(m[0], m[1], m[2], m[3], m[4], m[5]), want.equals(BROKEN) ? 1 : 0);
        Due.due(move, x.written(m[4], m[5]), want);
    }

    private static void blocksWhollyOrNot() {
        Due.sentence("A BLOCK that lies wholly in SOURCE, in TARGET, or reaches out by one line");
        int[] m = {1, 1, 2, 2, 3, 3};
        dueMoved(m, "B2:C3", "D4:E5");
        dueMoved(m, "A2:C3", "A2:C3");
        dueMoved(m, "B1:C3", "B1:C3");
        dueMoved(m, "B2:D3", "B2:D3");
        dueMoved(m, "B2:C4", "B2:C4");
        dueMoved(m, "D4:E5", BROKEN);
        dueMoved(m, "C4:E5", "C4:E5");
        dueMoved(m, "D3:E5", "D3:E5");
        dueMoved(m, "D4:F5", "D4:F5");
        dueMoved(m, "D4:E6", "D4:E6");
        dueMoved(m, "B2:E5", "B2:E5");
        int[] near = {1, 1, 2, 2, 2, 2};
        dueMoved(near, "C3:C3", "D4:D4");
        dueMoved(near, "B2:C3", "C3:D4");
        dueMoved(near, "C3:D4", BROKEN);
        dueMoved(near, "D4:D4", BROKEN);
        dueMoved(near, "B2:D4", "B2:D4");
    }

    private static void movedFormulas() {
        Due.sentence("In all FORMULAS then: ahead of SOURCE, in it, in TARGET, behind");
        Probe x = Probe.with(0, 0, "C3+D4");
        x.write(2, 2, "A1+C3+D4+C3:D4");
        x.write(3, 3, "C3+C3+C3+C3");
        x.write(5, 5, "D4+C3");
        Due.due("broken", x.moves(2, 2, 1, 1, 3, 3), 3);
        Due.due("A1", x.written(0, 0), "D4+#");
        Due.due("C3 is EMPTY", x.terms(2, 2), 0);
        Due.due("D4", x.written(3, 3), "A1+D4+#+C3:D4");
        Due.due("F6", x.written(5, 5), "#+D4");
    }

    private static void brokenByAMove() {
        Due.sentence("how many TERMS became BROKEN by it");
        Probe x = Probe.with(0, 0, "#+#+1+F6");
        Due.due("those that were are not told", x.moves(0, 0, 1, 1, 1, 0), 0);
        x.write(0, 5, "F6+F6+F6:F6+F6");
        Due.due("four of one CELL, one of another", x.moves(4, 4, 1, 1, 5, 5), 5);
        Due.due("again", x.moves(4, 4, 1, 1, 5, 5), 0);
        Due.due("all", x.count(2), 7);
        Probe y = Probe.with(2, 2, "D4+#");
        y.write(3, 3, "D4+C3+#+1");
        Due.due("those that are written over are not told", y.moves(2, 2, 1, 1, 3, 3), 1);
        Due.due("left", y.count(2), 2);
        Due.due("onto itself none", y.moves(0, 0, 6, 6, 0, 0), 0);
    }

    private static void cellsAreCopied() {
        Due.sentence("each CELL of TARGET gets (all from as they were ahead) that of SOURCE");
        for (int[] m : PAIRS) {
            Probe x = numbered();
            Due.due("none BROKEN", x.copies(m[0], m[1], m[2], m[3], m[4], m[5]), 0);
            for (int cell = 0; cell < 36; cell++) {
                int c = cell % 6;
                int r = cell / 6;
                boolean in = isIn(c, r, m[4], m[5], m[2], m[3]);
                int from = in ? 6 * (r - m[5] + m[1]) + c - m[4] + m[0] : cell;
                dueNumber(x, c, r, 100 + from);
            }
        }
    }

    private static void emptyOnesAreCopiedToo() {
        Due.sentence("each CELL of TARGET gets that of SOURCE: EMPTY ones, too");
        Probe x = Probe.with(3, 3, "5");
        x.write(4, 3, "6");
        x.write(1, 1, "7");
        Due.due("copies", x.copies(0, 1, 2, 1, 3, 3), 0);
        Due.due("EMPTY", x.terms(3, 3), 0);
        Due.due("7", x.written(4, 3), "7");
        Due.due("SOURCE stays", x.written(1, 1), "7");
        Due.due("two", x.count(0), 2);
    }

    private static void placesWhenCopied() {
        Due.sentence("coordinates that are not FIXED as many columns, rows further; "
            + "a coordinate out of the sheet: BROKEN");
        for (int by = -5; by <= 5; by++) {
            for (int down = -5; down <= 5; down++) {
                for (int cell = 0; cell < 36; cell++) {
                    placeWhenCopied(by, down, cell % 6, cell / 6, (cell + by + down + 10) % 4);
                }
            }
        }
        for (int fixed = 0; fixed <= 3; fixed++) {
            for (int cell = 0; cell < 36; cell++) {
                placeWhenCopied(1, -1, cell % 6, cell / 6, fixed);
                placeWhenCopied(-3, 2, cell % 6, cell / 6, fixed);
            }
        }
    }

    private static void placeWhenCopied(int by, int down, int c, int r, int fixed) {
        int toC = (fixed & 1) == 1 ? c : c + by;
        int toR = (fixed & 2) == 2 ? r : r + down;
        boolean within = isIn(toC, toR, 0, 0, 6, 6);
        dueCopied(by, down, name(c, r, fixed), within ? name(toC, toR, fixed) : BROKEN);
    }

    private static void blocksWhenCopied() {
        Due.sentence("those of a BLOCK then each go to where they belong, as WRITTEN tells it");
        for (int by = -5; by <= 5; by++) {
            for (int least = 0; least <= 5; least++) {
                for (int greatest = least; greatest <= 5; greatest++) {
                    for (int fixed = 0; fixed <= 3; fixed++) {
                        columnsWhenCopied(by, least, greatest, fixed);
                        rowsWhenCopied(by, least, greatest, fixed);
                    }
                }
            }
        }
    }

    private static void columnsWhenCopied(int by, int least, int greatest, int fixed) {
        String text = mark(fixed, 0) + (char) ('A' + least) + "$2:" + mark(fixed, 1) + (char) ('A' + greatest) + "5";
        int first = (fixed & 1) == 1 ? least : least + by;
        int second = (fixed & 2) == 2 ? greatest : greatest + by;
        String want = BROKEN;
        if (first >= 0 && first <= 5 && second >= 0 && second <= 5) {
            String one = mark(fixed, 0) + (char) ('A' + first);
            String other = mark(fixed, 1) + (char) ('A' + second);
            want = (first <= second ? one : other) + "$2:" + (first <= second ? other : one) + "5";
        }
        dueCopied(by, 0, text, want);
    }

    private static void rowsWhenCopied(int down, int least, int greatest, int fixed) {
        String text = "B" + mark(fixed, 0) + (char) ('1' + least) + ":$E" + mark(fixed, 1) + (char) ('1' + greatest);
        int first = (fixed & 1) == 1 ? least : least + down;
        int second = (fixed & 2) == 2 ? greatest : greatest + down;
        String want = BROKEN;
        if (first >= 0 && first <= 5 && second >= 0 && second <= 5) {
            String one = mark(fixed, 0) + (char) ('1' + first);
            String other = mark(fixed, 1) + (char) ('1' + second);
            want = "B" + (first <= second ? one : other) + ":$E" + (first <= second ? other : one);
        }
        dueCopied(0, down, text, want);
    }

    private static void blocksWhenCopiedByHand() {
        Due.sentence("a COPY's BLOCK: both ways at once, like ones, one corner out of the sheet");
        dueCopied(2, 2, "A1:$B$2", "$B$2:C3");
        dueCopied(1, 1, "A1:$B$2", "B2:$B$2");
        dueCopied(2, 0, "A1:$B$2", "$B1:C$2");
        dueCopied(0, 2, "A1:$B$2", "A$2:$B3");
        dueCopied(-2, -2, "$C$3:D4", "B2:$C$3");
        dueCopied(-1, -1, "$C$3:D4", "$C$3:C3");
        dueCopied(1, 0, "A1:F1", BROKEN);
        dueCopied(1, 0, "A1:$F1", "B1:$F1");
        dueCopied(-1, 0, "A1:F1", BROKEN);
        dueCopied(-1, 0, "$A1:F1", "$A1:E1");
        dueCopied(0, 1, "A1:A6", BROKEN);
        dueCopied(0, -1, "A$1:A6", "A$1:A5");
        dueCopied(5, 5, "$A$1:$F$6", "$A$1:$F$6");
        dueCopied(5, 5, "A1:A1", "F6:F6");
        dueCopied(5, 5, "999", "999");
        dueCopied(-5, 5, "#", BROKEN);
    }

    private static void dueCopied(int by, int down, String text, String want) {
        int c = Math.max(0, -by);
        int r = Math.max(0, -down);
        Probe x = Probe.with(c, r, text);
        String copy = text + " copied by " + by + ", " + down;
        Due.due(copy + ": broken", x.copies(c, r, 1, 1, c + by, r + down), want.equals(BROKEN) ? 1 : 0);
        Due.due(copy, x.written(c + by, r + down), want);
        if (by != 0 || down != 0) {
            Due.due(copy + ": SOURCE", x.written(c, r), text);
        }
    }

    private static void othersStayWhenCopied() {
        Due.sentence("COPY: each CELL of TARGET gets; nobody else's TERMS become other");
        Probe x = Probe.with(0, 0, "B2+D4+B2:C3+D4:E5");
        x.write(1, 1, "A1");
        x.write(3, 3, "5");
        Due.due("copies", x.copies(1, 1, 2, 2, 3, 3), 0);
        Due.due("A1", x.written(0, 0), "B2+D4+B2:C3+D4:E5");
        Due.due("B2", x.written(1, 1), "A1");
        Due.due("D4", x.written(3, 3), "C3");
    }

    private static void brokenInTheTarget() {
        Due.sentence("how many TERMS are BROKEN in TARGET then");
        Probe x = Probe.with(0, 0, "#+F1+A6+#");
        Due.due("those that were, too", x.copies(0, 0, 1, 1, 0, 0), 2);
        Due.due("one more", x.copies(0, 0, 1, 1, 1, 0), 3);
        Due.due("all", x.copies(0, 0, 1, 1, 1, 1), 4);
        Due.due("of several CELLS", x.copies(0, 0, 2, 1, 4, 4), 8);
        Due.due("none outside of TARGET", x.copies(3, 3, 1, 1, 3, 2), 0);
        Due.due("what TARGET had is gone", x.copies(3, 3, 1, 1, 4, 4), 0);
        Due.due("left", x.count(2), 2 + 3 + 4 + 4);
    }

    /** A sheet whose cells have the numbers 100 to 135, row by row. */
    private static Probe numbered() {
        Probe x = new Probe();
        for (int cell = 0; cell < 36; cell++) {
            x.write(cell % 6, cell / 6, "" + (100 + cell));
        }
        return x;
    }

    private static void dueNumber(Probe x, int c, int r, int want) {
        Due.due("terms of " + c + ", " + r, x.terms(c, r), want == 0 ? 0 : 1);
        if (want != 0) {
            Due.due("the number of " + c + ", " + r, x.term(c, r, 0, 1), want);
        }
    }

    private static boolean isIn(int c, int r, int areaC, int areaR, int w, int h) {
        return c >= areaC && c < areaC + w && r >= areaR && r < areaR + h;
    }

    private static String mark(int fixed, int bit) {
        return (fixed >> bit & 1) == 1 ? "$" : "";
    }

    private static String name(int c, int r, int fixed) {
        return mark(fixed, 0) + (char) ('A' + c) + mark(fixed, 1) + (char) ('1' + r);
    }
}

/** What is told of cells and of the sheet: each number's least and greatest, and what is 0 or none. */
public final class ToldEdgeTest {
    private static final int[] NO_LINES = {-1, 6, 7, 36, Due.LOW, Due.LOW + 1, Due.HIGH - 1, Due.HIGH};

    public static void main(String[] args) {
        aNewObject();
        cellsOfTheSheet();
        termsOfACell();
        suchTerms();
        whatOfATerm();
        brokenTellsNothing();
        lettersOfACell();
        lettersOfNumbers();
        usersOfACell();
        usersAtBlocksEdges();
        counts();
        fullCounts();
        toldNumbers();
        emptiesTells();
        digestOfOneCell();
        Due.end();
    }

    private static void aNewObject() {
        Due.sentence("As told; all CELLS are EMPTY");
        Probe x = new Probe();
        for (int cell = 0; cell < 36; cell++) {
            int c = cell % 6;
            int r = cell / 6;
            Due.due("terms", x.terms(c, r), 0);
            Due.due("shown", x.shown(c, r, 0), Due.NONE);
            Due.due("users", x.users(c, r), 0);
            Due.dueFault(x, c, r, 0, Due.NONE, Due.NONE);
        }
        for (int what = 0; what <= 4; what++) {
            Due.due("told", x.told(what), 0);
        }
        for (int what = 0; what <= 3; what++) {
            Due.due("count", x.count(what), 0);
        }
        Due.due("THE TEXT is empty", x.put(0, 0), -10);
        Due.due("no STATE", x.back(), Due.NO);
        Due.due("NONE", SheetRefs.NONE, -1);
        Due.due("BAD", SheetRefs.BAD, -2);
        Due.due("NO", SheetRefs.NO, -3);
        Due.due("FULL", SheetRefs.FULL, -4);
        new Probe().type('7');
        Due.due("an object of its own", new Probe().told(3), 0);
        Due.due("digest of a new one", new Probe().digest(), newDigest());
    }

    private static long newDigest() {
        long h = 1626;
        for (int i = 0; i < 9; i++) {
            h *= 31;
        }
        for (int cell = 0; cell < 36; cell++) {
            h = 31 * (31 * (31 * h)) + Due.NONE;
        }
        return h;
    }

    private static void cellsOfTheSheet() {
        Due.sentence("CELL c, r: columns 0 .. 5, rows 0 .. 5. BAD");
        for (int line = 0; line <= 5; line++) {
            dueCell(line, 0, false);
            dueCell(0, line, false);
            dueCell(line, 5, false);
            dueCell(5, line, false);
            for (int other : NO_LINES) {
                dueCell(line, other, true);
                dueCell(other, line, true);
            }
        }
        for (int other : NO_LINES) {
            dueCell(other, other, true);
        }
    }

    private static void dueCell(int c, int r, boolean bad) {
        Probe x = new Probe();
        x.types("7");
        String cell = "(" + c + ", " + r + ")";
        Due.due("put" + cell, x.put(c, r), bad ? Due.BAD : 1);
        Due.due("terms" + cell, x.terms(c, r), bad ? Due.BAD : 1);
        Due.due("term" + cell, x.term(c, r, 0, 1), bad ? Due.BAD : 7);
        Due.due("shown" + cell, x.shown(c, r, 0), bad ? Due.BAD : '7');
        Due.due("value" + cell, x.value(c, r), bad ? Due.BAD : 7);
        Due.due("why" + cell, x.why(c, r), bad ? Due.BAD : Due.NONE);
        Due.due("deep" + cell, x.deep(c, r), bad ? Due.BAD : Due.NONE);
        Due.due("users" + cell, x.users(c, r), bad ? Due.BAD : 0);
        Due.due("empties" + cell, x.empties(c, r), bad ? Due.BAD : 1);
        Due.due("BAD so often", x.told(0), bad ? 9 : 0);
        Due.due("STATES", x.told(4), bad ? 0 : 2);
        Due.due("NO and FULL", x.told(1) + x.told(2), 0);
    }

    private static void termsOfACell() {
        Due.sentence("TERMS of CELL c, r (0: EMPTY)");
        Probe x = Probe.with(2, 2, "1+2+3+4");
        Due.due("four", x.terms(2, 2), 4);
        Due.due("none beside", x.terms(1, 2) + x.terms(3, 2) + x.terms(2, 1) + x.terms(2, 3), 0);
        x.write(2, 2, "#");
        Due.due("one", x.terms(2, 2), 1);
        x.write(2, 2, "1+2+3");
        Due.due("three", x.terms(2, 2), 3);
        x.write(2, 2, "1+A1:B2");
        Due.due("two", x.terms(2, 2), 2);
        x.empties(2, 2);
        Due.due("none", x.terms(2, 2), 0);
    }

    private static void suchTerms() {
        Due.sentence("term: BAD: no such TERM, too");
        String text = "";
        for (int size = 0; size <= 4; size++) {
            text += size == 0 ? "" : size == 1 ? "11" : "+" + 11 * size;
            Probe x = size == 0 ? new Probe() : Probe.with(3, 3, text);
            x.write(4, 3, "5+6+7+8");
            x.write(2, 3, "5+6+7+8");
            for (int i = 0; i < size; i++) {
                Due.due("term " + i + " of " + size, x.term(3, 3, i, 1), 11 * (i + 1));
            }
            for (int i : new int[] {-1, size, size + 1, 4, 5, -4, 144, Due.LOW, Due.HIGH}) {
                Due.due("term " + i + " of " + size, x.term(3, 3, i, 0), Due.BAD);
            }
            Due.due("BAD so often", x.told(0), 9);
        }
    }

    private static void whatOfATerm() {
        Due.sentence("term: what 0 .. 5; else 0. BAD");
        Probe x = Probe.with(0, 0, "999+$F$6+$E$5:$F$6+#");
        Due.dueTerm(x, 0, 0, 0, 0, 999, 0, 0, 0, 0);
        Due.dueTerm(x, 0, 0, 1, 1, 5, 5, 0, 0, 3);
        Due.dueTerm(x, 0, 0, 2, 2, 4, 4, 5, 5, 15);
        Due.dueTerm(x, 0, 0, 3, 3, 0, 0, 0, 0, 0);
        x.write(0, 0, "0+A1+A1:A1+A1:F6");
        Due.dueTerm(x, 0, 0, 0, 0, 0, 0, 0, 0, 0);
        Due.dueTerm(x, 0, 0, 1, 1, 0, 0, 0, 0, 0);
        Due.dueTerm(x, 0, 0, 2, 2, 0, 0, 0, 0, 0);
        Due.dueTerm(x, 0, 0, 3, 2, 0, 0, 5, 5, 0);
        x.write(0, 0, "$B3+B$3+$B3:C4+B$3:C4");
        Due.dueTerm(x, 0, 0, 0, 1, 1, 2, 0, 0, 1);
        Due.dueTerm(x, 0, 0, 1, 1, 1, 2, 0, 0, 2);
        Due.dueTerm(x, 0, 0, 2, 2, 1, 2, 2, 3, 1);
        Due.dueTerm(x, 0, 0, 3, 2, 1, 2, 2, 3, 2);
        x.write(0, 0, "B3:$C4+B3:C$4");
        Due.dueTerm(x, 0, 0, 0, 2, 1, 2, 2, 3, 4);
        Due.dueTerm(x, 0, 0, 1, 2, 1, 2, 2, 3, 8);
        for (int what : new int[] {-1, 6, 7, Due.LOW, Due.HIGH}) {
            Due.due("what " + what, x.term(0, 0, 0, what), Due.BAD);
        }
        Due.due("BAD so often", x.told(0), 5);
    }

    private static void brokenTellsNothing() {
        Due.sentence("term: of a BROKEN one all but its kind is 0, whatever it was");
        for (String text : new String[] {"$F$6", "F6", "$F$6:$F$6", "F$6:$F6"}) {
            Probe x = Probe.with(0, 0, text);
            x.goes(0, 5, 1);
            Due.dueTerm(x, 0, 0, 0, 3, 0, 0, 0, 0, 0);
            Due.due("written", x.written(0, 0), "#");
            x.back();
            x.comes(1, 5, 1);
            Due.dueTerm(x, 0, 0, 0, 3, 0, 0, 0, 0, 0);
            x.back();
            x.moves(1, 1, 1, 1, 5, 5);
            Due.dueTerm(x, 0, 0, 0, 3, 0, 0, 0, 0, 0);
        }
        Probe y = Probe.with(0, 0, "$F6+E$6:F$6");
        y.copies(0, 0, 1, 1, 1, 1);
        Due.dueTerm(y, 1, 1, 0, 3, 0, 0, 0, 0, 0);
        Due.dueTerm(y, 1, 1, 1, 3, 0, 0, 0, 0, 0);
    }

    private static void lettersOfACell() {
        Due.sentence("The k-th letter as WRITTEN; NONE: not so many. BAD: k below 0, too");
        for (String text : new String[] {"7", "#", "F6", "$A$1:$F$6+$A$1:$F$6+$A$1:$F$6+$A$1:$F$6", "A1:B2+C$3+#+10"}) {
            Probe x = Probe.with(5, 5, text);
            for (int k = 0; k < text.length(); k++) {
                Due.due("letter " + k + " of " + text, x.shown(5, 5, k), text.charAt(k));
            }
            for (int k : new int[] {text.length(), text.length() + 1, 60, 1000, Due.HIGH}) {
                Due.due("letter " + k + " of " + text, x.shown(5, 5, k), Due.NONE);
            }
            Due.due("nothing refused", x.told(0), 0);
            Due.due("-1", x.shown(5, 5, -1), Due.BAD);
            Due.due("least", x.shown(5, 5, Due.LOW), Due.BAD);
            Due.due("-1 of an EMPTY one", x.shown(0, 0, -1), Due.BAD);
            Due.due("0 of an EMPTY one", x.shown(0, 0, 0), Due.NONE);
            Due.due("greatest of an EMPTY one", x.shown(0, 0, Due.HIGH), Due.NONE);
            Due.due("BAD so often", x.told(0), 3);
            x.write(5, 5, "1");
            Due.due("none of the longer one", x.shown(5, 5, 1), Due.NONE);
        }
    }

    private static void lettersOfNumbers() {
        Due.sentence("NUMBER: 1 to 3 figures, without 0s ahead");
        for (int number = 0; number <= 999; number++) {
            String told = "" + number;
            Due.due("as told", Probe.with(0, 0, told).written(0, 0), told);
            String zeros = "000".substring(told.length()) + told;
            Due.due("0s ahead", Probe.with(0, 0, zeros).written(0, 0), told);
        }
    }

    private static void usersOfACell() {
        Due.sentence("How many TERMS of all CELLS refer to CELL c, r");
        Probe x = Probe.with(0, 0, "A1+$A$1+A1:A1+A1:F6");
        Due.due("four TERMS of one CELL", x.users(0, 0), 4);
        Due.due("the BLOCK alone", x.users(5, 5), 1);
        x.write(5, 5, "A1+0+#+1");
        Due.due("of another CELL, too", x.users(0, 0), 5);
        x.write(0, 0, "0+1+#+11");
        Due.due("a NUMBER and a BROKEN one refer to none", x.users(0, 0), 1);
        Due.due("nor to the one that they would name", x.users(1, 0), 0);
        Probe full = new Probe();
        full.types("A1:F6+A1:F6+A1:F6+A1:F6");
        for (int cell = 0; cell < 36; cell++) {
            full.put(cell % 6, cell / 6);
        }
        for (int cell = 0; cell < 36; cell++) {
            Due.due("all", full.users(cell % 6, cell / 6), 144);
        }
    }

    private static void usersAtBlocksEdges() {
        Due.sentence("users: a PLACE that is it, a BLOCK that has it");
        Probe x = Probe.with(0, 0, "C3");
        Probe y = Probe.with(0, 0, "B3:E$4");
        for (int cell = 0; cell < 36; cell++) {
            int c = cell % 6;
            int r = cell / 6;
            Due.due("the PLACE at " + c + ", " + r, x.users(c, r), c == 2 && r == 2 ? 1 : 0);
            boolean has = c >= 1 && c <= 4 && r >= 2 && r <= 3;
            Due.due("the BLOCK at " + c + ", " + r, y.users(c, r), has ? 1 : 0);
        }
    }

    private static void counts() {
        Due.sentence("count: what 0 .. 3. BAD");
        Probe x = Probe.with(0, 0, "#+1+#");
        x.write(1, 0, "A1+2");
        x.write(2, 0, "C1");
        x.write(3, 0, "7+8+9+A6");
        Due.due("CELLS", x.count(0), 4);
        Due.due("TERMS", x.count(1), 10);
        Due.due("BROKEN ones", x.count(2), 2);
        Due.due("with a FAULT", x.count(3), 3);
        for (int what : new int[] {-1, 4, 5, Due.LOW, Due.HIGH}) {
            Due.due("count(" + what + ")", x.count(what), Due.BAD);
        }
        Due.due("BAD so often", x.told(0), 5);
    }

    private static void fullCounts() {
        Due.sentence("count: all CELLS, all TERMS");
        Probe x = new Probe();
        x.types("#+#+#+#");
        for (int cell = 0; cell < 36; cell++) {
            x.put(cell % 6, cell / 6);
        }
        Due.due("CELLS", x.count(0), 36);
        Due.due("TERMS", x.count(1), 144);
        Due.due("BROKEN ones", x.count(2), 144);
        Due.due("with a FAULT", x.count(3), 36);
        x.goes(0, 0, 6);
        for (int what = 0; what <= 3; what++) {
            Due.due("none", x.count(what), 0);
        }
    }

    private static void toldNumbers() {
        Due.sentence("told: what 0 .. 4. BAD");
        Probe x = new Probe();
        int times = 0;
        for (int what : new int[] {-1, 5, 6, Due.LOW, Due.HIGH}) {
            Due.due("told(" + what + ")", x.told(what), Due.BAD);
            times++;
            Due.due("which counts itself", x.told(0), times);
        }
        x.back();
        x.types("1".repeat(63));
        x.empties(0, 0);
        x.empties(0, 0);
        Due.due("BAD", x.told(0), 5);
        Due.due("NO", x.told(1), 1);
        Due.due("FULL", x.told(2), 3);
        Due.due("bytes", x.told(3), 60);
        Due.due("STATES", x.told(4), 2);
        x.clear();
        Due.due("bytes", x.told(3), 0);
        Due.due("FULL stays", x.told(2), 3);
    }

    private static void emptiesTells() {
        Due.sentence("CELL c, r is EMPTY: how many TERMS it had (0: EMPTY)");
        String text = "";
        for (int size = 1; size <= 4; size++) {
            text += size == 1 ? "A1" : "+" + size;
            Probe x = Probe.with(5, 2, text);
            x.put(4, 2);
            x.put(0, 3);
            Due.due("it had", x.empties(5, 2), size);
            Due.due("EMPTY", x.terms(5, 2), 0);
            Due.due("EMPTY", x.empties(5, 2), 0);
            Due.due("nobody else", x.terms(4, 2) + x.terms(0, 3), 2 * size);
            Due.due("STATES", x.told(4), 5);
        }
    }

    /** The numbers one by one as the document lists them, of a sheet with one cell at either end. */
    private static void digestOfOneCell() {
        Due.sentence("h = 1626; then h = 31 h + v for each v");
        for (int at = 0; at <= 5; at += 5) {
            Probe x = Probe.with(at, at, "999+$B3+A1:$F$6+#");
            x.type(-1);
            x.back();
            x.back();
            x.back();
            x.put(at, at);
            // A1 asks itself by its block first; F6 meets itself at the block's last cell.
            long h = 1626;
            h = added(h, 1, 2, 0, 17, 1);
            h = added(h, 1, 4, 1, 1);
            for (int cell = 0; cell < 36; cell++) {
                if (cell != 7 * at) {
                    h = added(h, 0, 0, -1);
                    continue;
                }
                h = added(h, 4);
                h = added(h, 0, 999, 0, 0, 0, 0);
                h = added(h, 1, 1, 2, 0, 0, 1);
                h = added(h, 2, 0, 0, 5, 5, 12);
                h = added(h, 3, 0, 0, 0, 0, 0);
                h = added(h, -12, 11 * at);
            }
            Due.due("digest", x.digest(), h);
            Due.due("twice the same", x.digest(), h);
        }
    }

    private static long added(long before, int... numbers) {
        long h = before;
        for (int v : numbers) {
            h = 31 * h + v;
        }
        return h;
    }
}

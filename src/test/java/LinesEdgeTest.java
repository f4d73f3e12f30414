/** Rows and columns that come and go: each a, each n, each line a cell or a term can lie in. */
public final class LinesEdgeTest {
    private static final String BROKEN = "#";

    public static void main(String[] args) {
        comingMovesCells();
        comingIsRefused();
        comingOfPlaces();
        comingOfBlocks();
        comingByHand();
        comingInBothWays();
        goingMovesCells();
        goingOfPlaces();
        goingOfBlocks();
        goingByHand();
        goingOfAll();
        numbersAndBrokenStay();
        howManyAreNotEmpty();
        waysAndBounds();
        Due.end();
    }

    private static void comingMovesCells() {
        Due.sentence("CELLS of rows a and on are n further down; NO, if one that is not EMPTY would be gone");
        for (int way = 0; way <= 1; way++) {
            for (int a = 0; a <= 5; a++) {
                for (int n = 1; n <= 6; n++) {
                    for (int line = 0; line <= 5; line++) {
                        comingMovesCell(way, a, n, line, (a + n + line) % 6);
                    }
                }
            }
        }
    }

    private static void comingMovesCell(int way, int a, int n, int line, int across) {
        Probe x = Probe.with(column(way, line, across), row(way, line, across), "7");
        int then = line < a ? line : line + n;
        String what = "comes(" + way + ", " + a + ", " + n + ") of line " + line;
        Due.due(what, x.comes(way, a, n), then > 5 ? Due.NO : 1);
        Due.due("NO", x.told(1), then > 5 ? 1 : 0);
        Due.due("STATES", x.told(4), then > 5 ? 1 : 2);
        int there = then > 5 ? line : then;
        Due.due(what + ": there", x.terms(column(way, there, across), row(way, there, across)), 1);
        Due.due("no other", x.count(0), 1);
    }

    private static void comingIsRefused() {
        Due.sentence("NO, if one that is not EMPTY would be gone: any one, and all stays");
        for (int across = 0; across <= 5; across++) {
            for (int way = 0; way <= 1; way++) {
                Probe x = Probe.with(column(way, 5, across), row(way, 5, across), "A1+#");
                x.write(0, 0, "F6");
                long then = x.digestOneMore(1);
                Due.due("the last line", x.comes(way, 5, 1), Due.NO);
                Due.due("all stays", x.digest(), then);
                Due.due("the other way", x.comes(1 - way, across, 6 - across), Due.NO);
                x.empties(column(way, 5, across), row(way, 5, across));
                Due.due("EMPTY now", x.comes(way, 5, 1), 1);
            }
        }
        Probe full = new Probe();
        full.types("1");
        for (int cell = 0; cell < 36; cell++) {
            full.put(cell % 6, cell / 6);
        }
        for (int way = 0; way <= 1; way++) {
            for (int a = 0; a <= 5; a++) {
                Due.due("a full sheet", full.comes(way, a, 1), Due.NO);
            }
        }
        Due.due("all are there", full.count(0), 36);
    }

    private static void comingOfPlaces() {
        Due.sentence("PLACES: row a or more: n more; above 5 then: BROKEN");
        for (int way = 0; way <= 1; way++) {
            for (int a = 0; a <= 5; a++) {
                for (int n = 1; n <= (a == 0 ? 5 : 6); n++) {
                    for (int x = 0; x <= 5; x++) {
                        for (int fixed = 0; fixed <= 3; fixed++) {
                            int then = x < a ? x : x + n;
                            dueComing(way, a, n, place(way, x, fixed),
                                then > 5 ? BROKEN : place(way, then, fixed));
                        }
                    }
                }
            }
        }
    }

    private static void comingOfBlocks() {
        Due.sentence("BLOCKS: a least row that is a or more is n more, above 5 then: BROKEN; "
            + "a greatest one that is a or more is n more, 5 at most");
        for (int way = 0; way <= 1; way++) {
            for (int a = 0; a <= 5; a++) {
                for (int n = 1; n <= (a == 0 ? 5 : 6); n++) {
                    comingOfBlocks(way, a, n);
                }
            }
        }
    }

    private static void comingOfBlocks(int way, int a, int n) {
        for (int least = 0; least <= 5; least++) {
            for (int greatest = least; greatest <= 5; greatest++) {
                int fixed = (a + n + least + 3 * greatest) % 16;
                int leastThen = least < a ? least : least + n;
                int greatestThen = greatest < a ? greatest : Math.min(5, greatest + n);
                dueComing(way, a, n, block(way, least, greatest, fixed),
                    leastThen > 5 ? BROKEN : block(way, leastThen, greatestThen, fixed));
            }
        }
    }

    /** The formula stands in the first line, which is never lost but for six lines ahead of it. */
    private static void dueComing(int way, int a, int n, String text, String want) {
        Probe x = Probe.with(column(way, 0, 3), row(way, 0, 3), text);
        Due.due("comes", x.comes(way, a, n), 1);
        int line = a == 0 ? n : 0;
        Due.due(text + " when " + n + " come ahead of " + a + ", way " + way,
            x.written(column(way, line, 3), row(way, line, 3)), want);
    }

    private static void comingByHand() {
        Due.sentence("COMING, told by hand");
        dueComing(0, 1, 1, "A1+A2+A5+A6", "A1+A3+A6+#");
        dueComing(1, 1, 1, "A1+B1+E1+F1", "A1+C1+F1+#");
        dueComing(0, 5, 6, "$A$5+$A$6", "$A$5+#");
        dueComing(0, 5, 1, "A5:A6+A6:A6+A1:A5+A1:A6", "A5:A6+#+A1:A5+A1:A6");
        dueComing(1, 2, 2, "B1:C1+C1:D1+C1:F1+E1:F1", "B1:E1+E1:F1+E1:F1+#");
        dueComing(1, 2, 6, "A1:C1+C1:D1+A1:B1", "A1:F1+#+A1:B1");
        dueComing(0, 0, 5, "A1+A2+A1:B1+A1:B6", "A6+#+A6:B6+A6:B6");
    }

    private static void comingInBothWays() {
        Due.sentence("(of columns likewise): the other coordinate stays");
        dueComing(0, 2, 1, "C3+F6:F6+E1:F3", "C4+#+E1:F4");
        dueComing(1, 2, 1, "C3+F6:F6+E1:F3", "D3+#+F1:F3");
        dueComing(0, 2, 1, "F2+F1:F2", "F2+F1:F2");
        dueComing(1, 2, 1, "B6+A6:B6", "B6+A6:B6");
    }

    private static void goingMovesCells() {
        Due.sentence("CELLS in them go, those behind come n up");
        for (int way = 0; way <= 1; way++) {
            for (int a = 0; a <= 5; a++) {
                for (int n = 1; n <= 6; n++) {
                    for (int line = 0; line <= 5; line++) {
                        goingMovesCell(way, a, n, line, (a + n + line) % 6);
                    }
                }
            }
        }
    }

    private static void goingMovesCell(int way, int a, int n, int line, int across) {
        Probe x = Probe.with(column(way, line, across), row(way, line, across), "7");
        String what = "goes(" + way + ", " + a + ", " + n + ") of line " + line;
        if (a + n > 6) {
            Due.due(what, x.goes(way, a, n), Due.BAD);
            Due.due("all stays", x.terms(column(way, line, across), row(way, line, across)), 1);
            Due.due("no STATE", x.told(4), 1);
            return;
        }
        boolean goes = line >= a && line < a + n;
        int then = line < a ? line : line - n;
        Due.due(what, x.goes(way, a, n), goes ? 0 : 1);
        Due.due("STATES", x.told(4), 2);
        Due.due("BAD", x.told(0), 0);
        if (!goes) {
            Due.due(what + ": there", x.terms(column(way, then, across), row(way, then, across)), 1);
        }
        Due.due("no other", x.count(0), goes ? 0 : 1);
    }

    private static void goingOfPlaces() {
        Due.sentence("PLACES in them: BROKEN; behind them: n less");
        for (int way = 0; way <= 1; way++) {
            for (int a = 0; a <= 5; a++) {
                for (int n = 1; n <= Math.min(5, 6 - a); n++) {
                    for (int x = 0; x <= 5; x++) {
                        for (int fixed = 0; fixed <= 3; fixed++) {
                            boolean goes = x >= a && x < a + n;
                            dueGoing(way, a, n, place(way, x, fixed),
                                goes ? BROKEN : place(way, x < a ? x : x - n, fixed));
                        }
                    }
                }
            }
        }
    }

    private static void goingOfBlocks() {
        Due.sentence("BLOCKS: a least row in them is a, a greatest one in them a - 1, one behind them n less; "
            + "BROKEN, if the greatest is less than the least then");
        for (int way = 0; way <= 1; way++) {
            for (int a = 0; a <= 5; a++) {
                for (int n = 1; n <= Math.min(5, 6 - a); n++) {
                    goingOfBlocks(way, a, n);
                }
            }
        }
    }

    private static void goingOfBlocks(int way, int a, int n) {
        for (int least = 0; least <= 5; least++) {
            for (int greatest = least; greatest <= 5; greatest++) {
                int fixed = (a + n + least + 3 * greatest) % 16;
                int leastThen = least < a ? least : least < a + n ? a : least - n;
                int greatestThen = greatest < a ? greatest : greatest < a + n ? a - 1 : greatest - n;
                dueGoing(way, a, n, block(way, least, greatest, fixed),
                    greatestThen < leastThen ? BROKEN : block(way, leastThen, greatestThen, fixed));
            }
        }
    }

    /** The formula stands in a line that stays: the first, or the last if the first one goes. */
    private static void dueGoing(int way, int a, int n, String text, String want) {
        int line = a == 0 ? 5 : 0;
        Probe x = Probe.with(column(way, line, 3), row(way, line, 3), text);
        Due.due("goes", x.goes(way, a, n), 1);
        int then = a == 0 ? 5 - n : 0;
        Due.due(text + " when " + n + " go from " + a + " on, way " + way,
            x.written(column(way, then, 3), row(way, then, 3)), want);
    }

    private static void goingByHand() {
        Due.sentence("GOING, told by hand");
        dueGoing(0, 2, 2, "A2+A3+A4+A5", "A2+#+#+A3");
        dueGoing(1, 2, 2, "$B$1+$C$1+$D$1+$E$1", "$B$1+#+#+$C$1");
        dueGoing(0, 2, 2, "A3:A4+A2:A3+A4:A5+A2:A5", "#+A2:A2+A3:A3+A2:A3");
        dueGoing(1, 2, 2, "C1:C1+B1:D1+C1:E1+A1:F1", "#+B1:B1+C1:C1+A1:D1");
        dueGoing(0, 0, 5, "A1:A5+A1:A6+A6:A6+A5:A5", "#+A1:A1+A1:A1+#");
        dueGoing(0, 1, 5, "A1:A6+A2:A6+A1:A1+A6", "A1:A1+#+A1:A1+#");
        dueGoing(1, 5, 1, "E1:F1+F1:F1+A1:E1+F1", "E1:E1+#+A1:E1+#");
        dueGoing(0, 2, 1, "F3:F3+E2:F4+C6+A3:F3", "#+E2:F3+C5+#");
    }

    private static void goingOfAll() {
        Due.sentence("GOING of n (1 .. 6) rows: all of them");
        for (int way = 0; way <= 1; way++) {
            Probe x = Probe.with(0, 0, "A1");
            x.write(5, 5, "F6+#");
            Due.due("six", x.goes(way, 0, 6), 0);
            Due.due("terms", x.count(1), 0);
            Due.due("an empty sheet, too", x.goes(way, 0, 6), 0);
            Due.due("STATES", x.told(4), 4);
            x.back();
            Due.due("back", x.back(), 2);
            Due.due("F6", x.written(5, 5), "F6+#");
        }
    }

    private static void numbersAndBrokenStay() {
        Due.sentence("COMING and GOING change PLACES and BLOCKS alone");
        dueComing(0, 1, 6, "0+5+999+#", "0+5+999+#");
        dueComing(1, 0, 1, "0+5+999+#", "0+5+999+#");
        dueGoing(0, 1, 5, "0+5+999+#", "0+5+999+#");
        dueGoing(1, 0, 5, "0+5+999+#", "0+5+999+#");
        Probe x = Probe.with(0, 0, "A2");
        x.write(0, 1, "A1+5");
        Due.due("comes", x.comes(0, 0, 4), 2);
        Due.due("all FORMULAS, those that moved, too", x.written(0, 4), "A6");
        Due.due("all FORMULAS", x.written(0, 5), "A5+5");
        Due.due("goes", x.goes(0, 0, 4), 2);
        Due.due("and up again", x.written(0, 0), "A2");
        Due.due("and up again", x.written(0, 1), "A1+5");
    }

    private static void howManyAreNotEmpty() {
        Due.sentence("comes, goes: how many CELLS are not EMPTY (then)");
        Probe x = new Probe();
        Due.due("none come", x.comes(1, 5, 6), 0);
        Due.due("none go", x.goes(1, 5, 1), 0);
        x.types("1");
        for (int cell = 0; cell < 18; cell++) {
            x.put(cell % 6, cell / 6);
        }
        Due.due("eighteen", x.comes(0, 0, 3), 18);
        Due.due("no room for a fourth", x.comes(0, 0, 1), Due.NO);
        Due.due("a row goes", x.goes(0, 5, 1), 12);
        Due.due("empty rows go", x.goes(0, 0, 3), 12);
        Due.due("columns go", x.goes(1, 1, 4), 4);
        Due.due("the last", x.goes(1, 0, 2), 0);
    }

    private static void waysAndBounds() {
        Due.sentence("rows (way 0) or columns (1); a 0 .. 5, n 1 .. 6. BAD");
        int[] others = {-1, 2, 6, 7, 8, Due.LOW, Due.LOW + 1, Due.HIGH - 1, Due.HIGH};
        for (int other : others) {
            dueBad(other, 0, 1);
            if (other != 2) {
                dueBad(0, other, 1);
                dueBad(1, other, 1);
            }
            if (other != 2 && other != 6) {
                dueBad(0, 0, other);
                dueBad(1, 5, other);
            }
            dueBad(other, other, other);
        }
        for (int way = 0; way <= 1; way++) {
            dueBad(way, 0, 0);
            dueBad(way, 5, 0);
            Due.due("least", new Probe().comes(way, 0, 1), 0);
            Due.due("greatest", new Probe().comes(way, 5, 6), 0);
            Due.due("least", new Probe().goes(way, 0, 1), 0);
            Due.due("greatest n", new Probe().goes(way, 0, 6), 0);
            Due.due("greatest a", new Probe().goes(way, 5, 1), 0);
            for (int a = 0; a <= 5; a++) {
                Due.due("together 6", new Probe().goes(way, a, 6 - a), 0);
                Due.due("together 7", new Probe().goes(way, a, 7 - a), Due.BAD);
            }
        }
    }

    private static void dueBad(int way, int a, int n) {
        String numbers = "(" + way + ", " + a + ", " + n + ")";
        Probe x = new Probe();
        Due.due("comes" + numbers, x.comes(way, a, n), Due.BAD);
        Due.due("goes" + numbers, x.goes(way, a, n), Due.BAD);
        Due.due("so often", x.told(0), 2);
        Due.due("no STATE", x.told(4), 0);
    }

    private static int column(int way, int line, int across) {
        return way == 1 ? line : across;
    }

    private static int row(int way, int line, int across) {
        return way == 1 ? across : line;
    }

    private static String name(int c, int r, int fixed) {
        return ((fixed & 1) == 1 ? "$" : "") + (char) ('A' + c) + ((fixed & 2) == 2 ? "$" : "") + (char) ('1' + r);
    }

    private static String place(int way, int line, int fixed) {
        return name(column(way, line, 2), row(way, line, 2), fixed);
    }

    private static String block(int way, int least, int greatest, int fixed) {
        return name(column(way, least, 1), row(way, least, 1), fixed)
            + ":" + name(column(way, greatest, 4), row(way, greatest, 4), fixed >> 2);
    }
}

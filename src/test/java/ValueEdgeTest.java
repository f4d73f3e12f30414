/** Values and their faults: the greatest sum, rings of each length, which fault is met first. */
public final class ValueEdgeTest {
    private static final int BROKEN = -11, RING = -12, ABOVE = -13;

    public static void main(String[] args) {
        emptyOnes();
        greatestSums();
        aboveByEachKind();
        aboveAsItComes();
        aboveAtTheCellWhoseSumItIs();
        manyCellsOfABlock();
        rings();
        ringsInBlocks();
        noRings();
        ringsSeenFromEachCell();
        brokenOnes();
        termsInOrder();
        cellsOfABlockRowByRow();
        allThatItAsksAheadOfTheNext();
        stepsToTheFault();
        faultsBetweenCalls();
        cellsWithAFault();
        Due.end();
    }

    private static void emptyOnes() {
        Due.sentence("VALUE of a CELL: of an EMPTY one 0");
        Probe x = Probe.with(0, 0, "B2+A2:F6+C1");
        Due.dueFault(x, 0, 0, 0, Due.NONE, Due.NONE);
        Due.dueFault(x, 5, 5, 0, Due.NONE, Due.NONE);
        Due.dueFault(Probe.with(0, 0, "0"), 0, 0, 0, Due.NONE, Due.NONE);
    }

    private static void greatestSums() {
        Due.sentence("ABOVE: a sum above 99999");
        Probe x = sums();
        x.write(5, 0, "A3+A2:B2+A1+98");
        Due.dueFault(x, 5, 0, 99998, Due.NONE, Due.NONE);
        x.write(5, 0, "A3+A2:B2+A1+99");
        Due.dueFault(x, 5, 0, 99999, Due.NONE, Due.NONE);
        x.write(5, 1, "F1+0");
        Due.dueFault(x, 5, 1, 99999, Due.NONE, Due.NONE);
        x.write(5, 2, "F2");
        Due.dueFault(x, 5, 2, 99999, Due.NONE, Due.NONE);
        x.write(5, 0, "A3+A2:B2+A1+100");
        Due.dueFault(x, 5, 0, ABOVE, 50, 0);
        Due.dueFault(x, 5, 1, ABOVE, 50, 1);
        Due.dueFault(x, 5, 2, ABOVE, 50, 2);
    }

    private static void aboveByEachKind() {
        Due.sentence("ABOVE: as each NUMBER, each VALUE comes to it");
        Probe x = greatest();
        dueAbove(x, "F1+1", true);
        dueAbove(x, "1+F1", true);
        dueAbove(x, "F1+F2", true);
        dueAbove(x, "F1:F2", true);
        dueAbove(x, "F1+F3+0+F1:F1", true);
        dueAbove(x, "F1+F3+0+F3:F5", false);
        dueAbove(x, "0+F1+0+0", false);
        dueAbove(x, "F1:F1", false);
    }

    private static void dueAbove(Probe x, String text, boolean above) {
        x.write(4, 5, text);
        Due.dueFault(x, 4, 5, above ? ABOVE : 99999, above ? 45 : Due.NONE, above ? 0 : Due.NONE);
    }

    private static void aboveAsItComes() {
        Due.sentence("ABOVE: as each comes to it in its order: ahead of what is behind it");
        Probe x = greatest();
        x.write(2, 5, "#");
        x.write(4, 5, "F1+1+#");
        Due.dueFault(x, 4, 5, ABOVE, 45, 0);
        x.write(4, 5, "F1+#+1");
        Due.dueFault(x, 4, 5, BROKEN, 45, 0);
        x.write(4, 5, "F1+1+E6");
        Due.dueFault(x, 4, 5, ABOVE, 45, 0);
        x.write(4, 5, "F1+E6+1");
        Due.dueFault(x, 4, 5, RING, 45, 0);
        x.write(0, 5, "F1");
        x.write(1, 5, "1");
        x.write(4, 5, "A6:C6");
        Due.dueFault(x, 4, 5, ABOVE, 45, 0);
        x.write(1, 5, "0");
        Due.dueFault(x, 4, 5, BROKEN, 25, 1);
        x.write(4, 5, "1+A6:C6");
        Due.dueFault(x, 4, 5, ABOVE, 45, 0);
    }

    private static void aboveAtTheCellWhoseSumItIs() {
        Due.sentence("ABOVE: at the CELL whose sum it is");
        Probe x = greatest();
        x.write(0, 5, "F1+1");
        x.write(1, 5, "F1+A6");
        x.write(2, 5, "1+F1+A6");
        x.write(3, 5, "B6");
        Due.dueFault(x, 0, 5, ABOVE, 5, 0);
        Due.dueFault(x, 1, 5, ABOVE, 5, 1);
        Due.dueFault(x, 2, 5, ABOVE, 25, 0);
        Due.dueFault(x, 3, 5, ABOVE, 5, 2);
    }

    /** Thirty cells of one block come to the sum one by one. */
    private static void manyCellsOfABlock() {
        Due.sentence("the sum of VALUES of a BLOCK's CELLS: all of them, above 99999 at the last");
        Probe x = new Probe();
        x.types("999+999+999+333");
        for (int cell = 0; cell < 29; cell++) {
            x.put(cell % 6, cell / 6);
        }
        x.write(5, 5, "A1:F5");
        Due.dueFault(x, 5, 5, 29 * 3330, Due.NONE, Due.NONE);
        x.write(4, 5, "A1:F5+999+999+999");
        Due.dueFault(x, 4, 5, 29 * 3330 + 2997, Due.NONE, Due.NONE);
        x.write(5, 4, "999+999+999+432");
        Due.dueFault(x, 5, 5, 99999, Due.NONE, Due.NONE);
        Due.dueFault(x, 4, 5, ABOVE, 45, 0);
        x.write(5, 4, "999+999+999+433");
        Due.dueFault(x, 5, 5, ABOVE, 55, 0);
        x.write(5, 4, "D6");
        x.write(3, 5, "#");
        Due.dueFault(x, 5, 5, BROKEN, 35, 2);
    }

    private static void rings() {
        Due.sentence("RING: a CELL asked that is being asked: at that CELL");
        for (int length = 1; length <= 36; length++) {
            Probe x = ring(length);
            Due.dueFault(x, 0, 0, RING, 0, length - 1);
            int last = length - 1;
            Due.dueFault(x, last % 6, last / 6, RING, 10 * (last % 6) + last / 6, length - 1);
            Due.due("all have a FAULT", x.count(3), length);
            x.write(last % 6, last / 6, "7");
            Due.dueFault(x, 0, 0, 7, Due.NONE, Due.NONE);
            Due.due("none has", x.count(3), 0);
        }
    }

    private static void ringsInBlocks() {
        Due.sentence("RING: a BLOCK that has the CELL itself, at each of its corners");
        for (int corner = 0; corner < 4; corner++) {
            int c = 1 + corner % 2 * 2;
            int r = 1 + corner / 2 * 2;
            Probe x = Probe.with(c, r, "B2:D4");
            Due.dueFault(x, c, r, RING, 10 * c + r, 0);
        }
        Due.dueFault(Probe.with(0, 1, "B2:D4"), 0, 1, 0, Due.NONE, Due.NONE);
        Due.dueFault(Probe.with(4, 3, "B2:D4"), 4, 3, 0, Due.NONE, Due.NONE);
        Due.dueFault(Probe.with(1, 0, "B2:D4"), 1, 0, 0, Due.NONE, Due.NONE);
        Due.dueFault(Probe.with(3, 4, "B2:D4"), 3, 4, 0, Due.NONE, Due.NONE);
        Due.dueFault(Probe.with(3, 3, "A1:F6"), 3, 3, RING, 33, 0);
    }

    private static void noRings() {
        Due.sentence("RING: only a CELL that is being asked yet");
        Probe x = Probe.with(0, 0, "B1+C1+B1+C1");
        x.write(1, 0, "D1+D1");
        x.write(2, 0, "D1+B1:B1+D1");
        x.write(3, 0, "5+E1+E1");
        Due.dueFault(x, 0, 0, 2 * 10 + 2 * 20, Due.NONE, Due.NONE);
        Due.due("none", x.count(3), 0);
    }

    private static void ringsSeenFromEachCell() {
        Due.sentence("RING: at that CELL: the one that the asking came to first");
        Probe x = Probe.with(0, 0, "B1");
        x.write(1, 0, "C1");
        x.write(2, 0, "D1+B1");
        x.write(3, 0, "B1+C1");
        Due.dueFault(x, 0, 0, RING, 10, 3);
        Due.dueFault(x, 1, 0, RING, 10, 2);
        Due.dueFault(x, 2, 0, RING, 20, 2);
        Due.dueFault(x, 3, 0, RING, 30, 2);
        x.write(3, 0, "C1+B1");
        Due.dueFault(x, 0, 0, RING, 20, 3);
        Due.dueFault(x, 3, 0, RING, 30, 1);
        x.write(4, 0, "A1:F1");
        Due.dueFault(x, 4, 0, RING, 20, 4);
    }

    private static void brokenOnes() {
        Due.sentence("BROKEN: at the CELL with that TERM");
        for (String text : new String[] {"#", "#+1", "1+#", "1+2+3+#", "A6+A6:B6+#"}) {
            Probe x = Probe.with(2, 3, text);
            x.write(5, 5, "1+C4");
            x.write(0, 0, "F6:F6");
            Due.dueFault(x, 2, 3, BROKEN, 23, 0);
            Due.dueFault(x, 5, 5, BROKEN, 23, 1);
            Due.dueFault(x, 0, 0, BROKEN, 23, 2);
            Due.dueFault(x, 1, 1, 0, Due.NONE, Due.NONE);
        }
    }

    private static void termsInOrder() {
        Due.sentence("Its FAULT: the first that is met, TERMS in order");
        Probe x = greatest();
        x.write(0, 5, "#");
        x.write(1, 5, "B6");
        x.write(2, 5, "F1+1");
        dueFirst(x, "A6+B6+C6", BROKEN, 5);
        dueFirst(x, "A6+C6+B6", BROKEN, 5);
        dueFirst(x, "B6+A6+C6", RING, 15);
        dueFirst(x, "B6+C6+A6", RING, 15);
        dueFirst(x, "C6+A6+B6", ABOVE, 25);
        dueFirst(x, "C6+B6+A6", ABOVE, 25);
        dueFirst(x, "1+A1+A1:B2+C6", ABOVE, 25);
    }

    private static void dueFirst(Probe x, String text, int value, int why) {
        x.write(4, 5, text);
        Due.dueFault(x, 4, 5, value, why, 1);
    }

    private static void cellsOfABlockRowByRow() {
        Due.sentence("CELLS of a BLOCK row by row");
        Probe x = Probe.with(1, 1, "#");
        x.write(0, 2, "A3");
        x.write(5, 5, "B3:A1");
        Due.dueFault(x, 5, 5, BROKEN, 11, 1);
        x.write(1, 0, "B1");
        Due.dueFault(x, 5, 5, RING, 10, 1);
        x.write(0, 1, "#");
        Due.dueFault(x, 5, 5, RING, 10, 1);
        x.write(0, 0, "#");
        Due.dueFault(x, 5, 5, BROKEN, 0, 1);
        x.empties(0, 0);
        x.empties(1, 0);
        Due.dueFault(x, 5, 5, BROKEN, 1, 1);
    }

    private static void allThatItAsksAheadOfTheNext() {
        Due.sentence("each with all that it asks ahead of the next");
        Probe x = Probe.with(0, 0, "B1+C1");
        x.write(1, 0, "D1");
        x.write(2, 0, "#");
        x.write(3, 0, "E1");
        x.write(4, 0, "E1");
        Due.dueFault(x, 0, 0, RING, 40, 3);
        x.write(4, 0, "C1");
        Due.dueFault(x, 0, 0, BROKEN, 20, 4);
        x.write(4, 0, "5");
        Due.dueFault(x, 0, 0, BROKEN, 20, 1);
    }

    private static void stepsToTheFault() {
        Due.sentence("How many steps lead from it to the CELL in which its FAULT was met (0: in itself)");
        for (int length = 1; length <= 36; length++) {
            Probe x = ring(length);
            int last = length - 1;
            x.write(last % 6, last / 6, "#");
            Due.dueFault(x, 0, 0, BROKEN, 10 * (last % 6) + last / 6, last);
            int middle = last / 2;
            Due.due("from the middle", x.deep(middle % 6, middle / 6), last - middle);
        }
        Probe y = greatest();
        y.write(0, 5, "B6");
        y.write(1, 5, "C6");
        y.write(2, 5, "F1+1");
        Due.dueFault(y, 0, 5, ABOVE, 25, 2);
        y.write(2, 5, "B6");
        Due.dueFault(y, 0, 5, RING, 15, 2);
        Due.dueFault(y, 1, 5, RING, 15, 1);
    }

    private static void faultsBetweenCalls() {
        Due.sentence("VALUE: of the cells as they are now, whatever was asked ahead");
        Probe x = Probe.with(0, 0, "B1");
        Due.dueFault(x, 0, 0, 0, Due.NONE, Due.NONE);
        x.write(1, 0, "5");
        Due.dueFault(x, 0, 0, 5, Due.NONE, Due.NONE);
        x.write(1, 0, "A1");
        Due.dueFault(x, 0, 0, RING, 0, 1);
        x.empties(1, 0);
        Due.dueFault(x, 0, 0, 0, Due.NONE, Due.NONE);
        x.back();
        Due.dueFault(x, 0, 0, RING, 0, 1);
        x.goes(1, 1, 1);
        Due.dueFault(x, 0, 0, BROKEN, 0, 0);
        x.back();
        Due.dueFault(x, 0, 0, RING, 0, 1);
        x.moves(0, 0, 1, 1, 3, 3);
        Due.dueFault(x, 3, 3, RING, 33, 1);
        Due.dueFault(x, 0, 0, 0, Due.NONE, Due.NONE);
        x.copies(3, 3, 1, 1, 2, 3);
        Due.dueFault(x, 2, 3, 0, Due.NONE, Due.NONE);
        x.comes(0, 0, 1);
        Due.dueFault(x, 3, 4, RING, 34, 1);
        Due.dueFault(x, 3, 3, 0, Due.NONE, Due.NONE);
    }

    private static void cellsWithAFault() {
        Due.sentence("CELLS with a FAULT (3): from none to all");
        Probe x = new Probe();
        x.types("A1");
        for (int cell = 0; cell < 36; cell++) {
            x.put(cell % 6, cell / 6);
            Due.due("so many", x.count(3), cell + 1);
        }
        x.write(0, 0, "999");
        Due.due("none", x.count(3), 0);
        x.write(0, 0, "1+#");
        Due.due("all", x.count(3), 36);
        x.empties(0, 0);
        Due.due("an EMPTY one has none, nor who asks it", x.count(3), 0);
    }

    /** A1 3996, A2 and B2 15984, A3 63936. */
    private static Probe sums() {
        Probe x = Probe.with(0, 0, "999+999+999+999");
        x.write(0, 1, "A1+A1+A1+A1");
        x.put(1, 1);
        x.write(0, 2, "A2+A2+A2+A2");
        return x;
    }

    /** F1 99999, F2 1. */
    private static Probe greatest() {
        Probe x = sums();
        x.write(5, 0, "A3+A2:B2+A1+99");
        x.write(5, 1, "1");
        return x;
    }

    /** So many cells, row by row, each asking its next, the last one the first. */
    private static Probe ring(int length) {
        Probe x = new Probe();
        for (int cell = 0; cell < length; cell++) {
            int next = (cell + 1) % length;
            x.write(cell % 6, cell / 6, "" + (char) ('A' + next % 6) + (char) ('1' + next / 6));
        }
        return x;
    }
}

/** Each promise of the document: ordinary inputs, the edges that it names, wrong inputs. */
public final class PromiseTest {
    private static final int BAD = Due.BAD, NO = Due.NO, FULL = Due.FULL, NONE = Due.NONE;
    private static final int LOW = Due.LOW, HIGH = Due.HIGH;

    public static void main(String[] args) {
        newObject();
        type();
        clear();
        put();
        putBlocks();
        putFaults();
        empties();
        comes();
        comesRefused();
        goes();
        moves();
        movesRefused();
        copies();
        back();
        terms();
        term();
        shown();
        value();
        faults();
        faultOrder();
        longAsking();
        users();
        count();
        told();
        digest();
        Due.end();
    }

    private static void newObject() {
        Due.sentence("1 new object");
        Probe x = new Probe();
        for (int what = 0; what <= 4; what++) {
            due("told " + what, x.told(what), 0);
        }
        for (int what = 0; what <= 3; what++) {
            due("count " + what, x.count(what), 0);
        }
        for (int cell = 0; cell < 36; cell++) {
            due("terms", x.terms(cell % 6, cell / 6), 0);
            due("value", x.value(cell % 6, cell / 6), 0);
            due("why", x.why(cell % 6, cell / 6), NONE);
        }
        due("NONE", SheetRefs.NONE, -1);
        due("BAD", SheetRefs.BAD, -2);
        due("NO", SheetRefs.NO, -3);
        due("FULL", SheetRefs.FULL, -4);
    }

    private static void type() {
        Due.sentence("2 type");
        Probe x = new Probe();
        due("least byte", x.type(0), 1);
        due("greatest byte", x.type(127), 2);
        due("below", x.type(-1), BAD);
        due("above", x.type(128), BAD);
        due("far below", x.type(LOW), BAD);
        due("far above", x.type(HIGH), BAD);
        for (int i = 3; i <= 60; i++) {
            due("byte " + i, x.type('1'), i);
        }
        due("a byte too many", x.type('1'), FULL);
        due("BAD comes ahead of FULL", x.type(200), BAD);
        due("BAD so often", x.told(0), 5);
        due("FULL so often", x.told(2), 1);
        due("bytes", x.told(3), 60);
        due("no state by typing", x.told(4), 0);
    }

    private static void clear() {
        Due.sentence("3 clear");
        Probe x = new Probe();
        due("of an empty text", x.clear(), 0);
        x.types("A1+B2");
        due("how many it had", x.clear(), 5);
        due("empty then", x.told(3), 0);
        due("again", x.clear(), 0);
        due("typed anew", x.type('7'), 1);
        due("the new text alone", x.put(0, 0), 1);
        due("its number", x.term(0, 0, 0, 1), 7);
        due("no state by clearing", x.told(4), 1);
    }

    private static void put() {
        Due.sentence("4 put");
        Probe x = new Probe();
        due("terms", x.write(0, 0, "A2+$B$3+5+#"), 4);
        dueShown(x, 0, 0, "A2+$B$3+5+#");
        due("the text stays", x.told(3), 11);
        due("put once more", x.put(5, 5), 4);
        dueShown(x, 5, 5, "A2+$B$3+5+#");
        due("a state each", x.told(4), 2);
        due("written over", x.write(0, 0, "7"), 1);
        dueShown(x, 0, 0, "7");
        dueRead(x, "  a2 + f $ 6 ", "A2+F$6");
        dueRead(x, "$ e $ 4 : $f 5", "$E$4:$F5");
        dueRead(x, "000+007+010+0", "0+7+10+0");
        dueRead(x, "999", "999");
        dueRead(x, " # + # ", "#+#");
        dueRead(x, "a1:f6+A1:A1", "A1:F6+A1:A1");
        int states = x.told(4);
        due("column below", x.put(-1, 0), BAD);
        due("column above", x.put(6, 0), BAD);
        due("row below", x.put(0, -1), BAD);
        due("row above", x.put(0, 6), BAD);
        due("far out", x.put(LOW, HIGH), BAD);
        due("counted", x.told(0), 5);
        due("no states", x.told(4), states);
        x.types("+");
        due("BAD ahead of the fault", x.put(9, 9), BAD);
    }

    private static void putBlocks() {
        Due.sentence("4 put, blocks told otherwise");
        Probe x = new Probe();
        dueRead(x, "C$2:A1", "A1:C$2");
        dueRead(x, "B2:$A$3", "$A2:B$3");
        dueRead(x, "$A3:B$2", "$A$2:B3");
        dueRead(x, "$C$3:A1", "A1:$C$3");
        dueRead(x, "A$1:$A1", "A$1:$A1");
        dueRead(x, "$A1:A$1", "$A1:A$1");
        dueRead(x, "$B5:B$4", "$B$4:B5");
        dueRead(x, "f6:a1", "A1:F6");
    }

    private static void putFaults() {
        Due.sentence("4 put, faults");
        Probe x = new Probe();
        x.write(1, 1, "5");
        long before = x.cellsDigest();
        dueFault(x, "", 0);
        dueFault(x, "   ", 3);
        dueFault(x, "+", 0);
        dueFault(x, "1+", 2);
        dueFault(x, "1+  ", 4);
        dueFault(x, "1++2", 2);
        dueFault(x, "1234", 3);
        dueFault(x, "0001", 3);
        dueFault(x, "1 2", 2);
        dueFault(x, "12  3+1", 4);
        dueFault(x, "1+1+1+1+1", 8);
        dueFault(x, "1+1+1+1+ A1", 9);
        dueFault(x, "1+1+1+1++", 8);
        dueFault(x, "1+1+1+1+", 8);
        dueFault(x, "1+1+1+1+  ", 10);
        dueFault(x, "1+1+1+1 1", 8);
        dueFault(x, "G1", 0);
        dueFault(x, "g1", 0);
        dueFault(x, "@1", 0);
        dueFault(x, "`1", 0);
        dueFault(x, "$G1", 1);
        dueFault(x, "A0", 1);
        dueFault(x, "A7", 1);
        dueFault(x, "A$7", 2);
        dueFault(x, "A", 1);
        dueFault(x, "A ", 2);
        dueFault(x, "$", 1);
        dueFault(x, "$$A1", 1);
        dueFault(x, "A$$1", 2);
        dueFault(x, "$5", 1);
        dueFault(x, "A12", 2);
        dueFault(x, "A1 B2", 3);
        dueFault(x, "A1:", 3);
        dueFault(x, "A1:5", 3);
        dueFault(x, "A1:#", 3);
        dueFault(x, "A1:B2:C3", 5);
        dueFault(x, "A1:B", 4);
        dueFault(x, "A1: B9", 5);
        dueFault(x, "#:A1", 1);
        dueFault(x, "##", 1);
        dueFault(x, "5:A1", 1);
        dueFault(x, "5A1", 1);
        dueFault(x, "1-2", 1);
        dueFault(x, "1+\t2", 2);
        dueFault(x, "" + (char) 0, 0);
        dueFault(x, "1" + (char) 127, 1);
        due("nothing counts", x.told(0) + x.told(1) + x.told(2), 0);
        due("no state", x.told(4), 1);
        due("all stays", x.cellsDigest(), before);
        x.clear();
        x.types(" ".repeat(60));
        due("60 blanks", x.put(0, 0), -70);
    }

    private static void empties() {
        Due.sentence("5 empties");
        Probe x = new Probe();
        x.write(2, 3, "1+2+A1");
        due("terms it had", x.empties(2, 3), 3);
        due("EMPTY then", x.terms(2, 3), 0);
        due("EMPTY ahead", x.empties(2, 3), 0);
        due("a state each time", x.told(4), 3);
        due("back to EMPTY", x.back(), 2);
        due("back to its terms", x.back(), 1);
        due("they are there", x.terms(2, 3), 3);
        due("column", x.empties(6, 0), BAD);
        due("row", x.empties(0, -1), BAD);
        due("far", x.empties(HIGH, LOW), BAD);
        due("counted", x.told(0), 3);
        due("no state by it", x.told(4), 1);
    }

    private static void comes() {
        Due.sentence("6 comes");
        Probe x = new Probe();
        x.write(0, 0, "A1+A2+$B$3+F6");
        x.write(1, 2, "A1:B2+A3:B4+A6:A6+A2:C$6");
        due("rows", x.comes(0, 1, 1), 2);
        dueShown(x, 0, 0, "A1+A3+$B$4+#");
        dueShown(x, 1, 3, "A1:B3+A4:B5+#+A3:C$6");
        dueShown(x, 1, 2, "");
        x.back();
        due("columns", x.comes(1, 1, 4), 2);
        dueShown(x, 0, 0, "A1+A2+$F$3+#");
        dueShown(x, 5, 2, "A1:F2+A3:F4+A6:A6+A2:F$6");
        x.back();
        due("ahead of the first", x.comes(1, 0, 2), 2);
        dueShown(x, 2, 0, "C1+C2+$D$3+#");
        dueShown(x, 3, 2, "C1:D2+C3:D4+C6:C6+C2:E$6");
        x.back();
        due("ahead of the last, more than are left", x.comes(0, 5, 6), 2);
        dueShown(x, 0, 0, "A1+A2+$B$3+#");
        dueShown(x, 1, 2, "A1:B2+A3:B4+#+A2:C$6");
        Probe y = new Probe();
        due("six of an empty sheet", y.comes(0, 0, 6), 0);
        due("a state, though nothing is other", y.told(4), 1);
        y.write(0, 0, "C3");
        due("the first cell would be gone", y.comes(0, 0, 6), NO);
        due("by columns, too", y.comes(1, 0, 6), NO);
        due("behind the first cell", y.comes(0, 1, 1), 1);
        dueShown(y, 0, 0, "C4");
    }

    private static void comesRefused() {
        Due.sentence("6 comes, refused");
        Probe x = new Probe();
        x.write(1, 2, "B3");
        due("gone by rows", x.comes(0, 2, 4), NO);
        due("gone by rows ahead", x.comes(0, 0, 6), NO);
        due("gone by columns", x.comes(1, 1, 5), NO);
        dueShown(x, 1, 2, "B3");
        due("NO counted", x.told(1), 3);
        due("no state", x.told(4), 1);
        due("as far as can be", x.comes(0, 2, 3), 1);
        dueShown(x, 1, 5, "B6");
        due("behind it", x.comes(1, 2, 6), 1);
        due("way", x.comes(2, 0, 1), BAD);
        due("way below", x.comes(-1, 0, 1), BAD);
        due("a below", x.comes(0, -1, 1), BAD);
        due("a above", x.comes(0, 6, 1), BAD);
        due("n below", x.comes(1, 0, 0), BAD);
        due("n above", x.comes(1, 0, 7), BAD);
        due("far", x.comes(0, HIGH, HIGH), BAD);
        due("n far", x.comes(0, 5, HIGH), BAD);
        due("BAD ahead of NO", x.comes(0, 0, 7), BAD);
        due("BAD counted", x.told(0), 9);
        due("no states by them", x.told(4), 3);
    }

    private static void goes() {
        Due.sentence("7 goes");
        Probe x = new Probe();
        x.write(0, 0, "A1+A2+$B$3+F6");
        x.write(1, 3, "A1:B2+A2:B3+A3:B6+B5:$F$6");
        x.write(2, 1, "5");
        due("rows", x.goes(0, 1, 2), 2);
        dueShown(x, 0, 0, "A1+#+#+F4");
        dueShown(x, 1, 1, "A1:B1+#+A2:B4+B3:$F$4");
        due("the CELL in them", x.terms(2, 1), 0);
        x.back();
        due("columns", x.goes(1, 1, 1), 2);
        dueShown(x, 0, 0, "A1+A2+#+E6");
        dueShown(x, 1, 1, "5");
        x.back();
        due("first column", x.goes(1, 0, 1), 2);
        dueShown(x, 0, 3, "A1:A2+A2:A3+A3:A6+A5:$E$6");
        x.back();
        due("the last ones", x.goes(0, 4, 2), 3);
        dueShown(x, 1, 3, "A1:B2+A2:B3+A3:B4+#");
        x.back();
        due("all", x.goes(0, 0, 6), 0);
        due("all are EMPTY", x.count(0), 0);
        x.back();
        due("a and n together", x.goes(0, 1, 6), BAD);
        due("a and n at the end", x.goes(1, 5, 2), BAD);
        due("way", x.goes(2, 0, 1), BAD);
        due("way below", x.goes(-1, 0, 1), BAD);
        due("a", x.goes(0, 6, 1), BAD);
        due("a below", x.goes(0, -1, 1), BAD);
        due("n", x.goes(0, 0, 0), BAD);
        due("n above", x.goes(0, 0, 7), BAD);
        due("n far", x.goes(0, 5, HIGH), BAD);
        due("a far", x.goes(0, LOW, 1), BAD);
        due("counted", x.told(0), 10);
        due("no states", x.told(4), 3);
        due("one at the end", x.goes(1, 5, 1), 3);
        dueShown(x, 0, 0, "A1+A2+$B$3+#");
        dueShown(x, 1, 3, "A1:B2+A2:B3+A3:B6+B5:$E$6");
        x.write(0, 0, "F6");
        x.goes(0, 1, 1);
        dueShown(x, 0, 0, "F5");
    }

    private static void moves() {
        Due.sentence("8 moves");
        Probe x = new Probe();
        x.write(0, 0, "B2+$B$2+D4+#");
        x.write(1, 1, "B2:C3+B2:D3+D4:E5+D4:$F$6");
        x.write(3, 3, "#+D4+1");
        due("broken by it", x.moves(1, 1, 2, 2, 3, 3), 2);
        dueShown(x, 0, 0, "D4+$D$4+#+#");
        dueShown(x, 3, 3, "D4:E5+B2:D3+#+D4:$F$6");
        due("source is EMPTY", x.terms(1, 1), 0);
        x.back();
        due("onto itself", x.moves(0, 0, 6, 6, 0, 0), 0);
        dueShown(x, 1, 1, "B2:C3+B2:D3+D4:E5+D4:$F$6");
        x.back();
        due("EMPTY ones come, too", x.moves(4, 4, 1, 1, 3, 3), 1);
        due("the target is EMPTY then", x.terms(3, 3), 0);
        dueShown(x, 0, 0, "B2+$B$2+#+#");
        dueShown(x, 1, 1, "B2:C3+B2:D3+D4:E5+D4:$F$6");
        Probe y = new Probe();
        y.write(0, 0, "1");
        y.write(1, 0, "A1+B1+C1");
        y.write(2, 0, "#");
        y.write(5, 5, "A1:B1+B1:C1+C1:C1+A1:$C$1");
        due("in one another", y.moves(0, 0, 2, 1, 1, 0), 3);
        due("left behind", y.terms(0, 0), 0);
        dueShown(y, 1, 0, "1");
        dueShown(y, 2, 0, "B1+C1+#");
        dueShown(y, 5, 5, "B1:C1+#+#+A1:$C$1");
        movesBlocks();
    }

    private static void movesBlocks() {
        Probe x = new Probe();
        x.write(0, 0, "A1:B3+A1:C2+A1:A2+B2:B2");
        x.write(1, 1, "C3:D4+C3:D5+C3:E4+B3:D4");
        x.write(5, 5, "D4:D4+C2:D4+$D$3+E5");
        due("wholly, or not", x.moves(0, 0, 2, 2, 2, 2), 3);
        dueShown(x, 2, 2, "A1:B3+A1:C2+C3:C4+D4:D4");
        dueShown(x, 3, 3, "#+C3:D5+C3:E4+B3:D4");
        dueShown(x, 5, 5, "#+C2:D4+#+E5");
        due("two came and one was there", x.count(0), 3);
    }

    private static void movesRefused() {
        Due.sentence("8 moves, refused");
        Probe x = new Probe();
        x.write(5, 5, "F6+A1");
        due("source wide", x.moves(5, 0, 2, 1, 0, 0), BAD);
        due("source high", x.moves(0, 5, 1, 2, 0, 0), BAD);
        due("target wide", x.moves(0, 0, 2, 1, 5, 0), BAD);
        due("target high", x.moves(0, 0, 1, 2, 0, 5), BAD);
        due("no width", x.moves(0, 0, 0, 1, 0, 0), BAD);
        due("no height", x.moves(0, 0, 1, 0, 0, 0), BAD);
        due("width", x.moves(0, 0, 7, 1, 0, 0), BAD);
        due("c", x.moves(-1, 0, 1, 1, 0, 0), BAD);
        due("r", x.moves(0, 6, 1, 1, 0, 0), BAD);
        due("p", x.moves(0, 0, 1, 1, 6, 0), BAD);
        due("q", x.moves(0, 0, 1, 1, 0, -1), BAD);
        due("wrapping around", x.moves(1, 1, HIGH, HIGH, 1, 1), BAD);
        due("far", x.moves(HIGH, LOW, 1, 1, 0, 0), BAD);
        due("counted", x.told(0), 13);
        due("no states", x.told(4), 1);
        due("to the first", x.moves(5, 5, 1, 1, 0, 0), 1);
        dueShown(x, 0, 0, "A1+#");
    }

    private static void copies() {
        Due.sentence("9 copies");
        Probe x = new Probe();
        x.write(2, 2, "$A1+A$1+$A$1:B2+C3");
        due("none broken", x.copies(2, 2, 1, 1, 3, 4), 0);
        dueShown(x, 3, 4, "$A3+B$1+$A$1:C4+D5");
        dueShown(x, 2, 2, "$A1+A$1+$A$1:B2+C3");
        due("out of the sheet", x.copies(2, 2, 1, 1, 0, 0), 3);
        dueShown(x, 0, 0, "#+#+#+A1");
        due("broken ones are counted again", x.copies(0, 0, 1, 1, 5, 5), 3);
        dueShown(x, 5, 5, "#+#+#+F6");
        due("out at the far side", x.copies(5, 5, 1, 1, 5, 5), 3);
        x.write(4, 4, "F1+A6+F$6+A1:E6");
        due("each by one", x.copies(4, 4, 1, 1, 5, 5), 4);
        x.write(4, 4, "$F1+A$6+E5+A1:$F$6");
        due("just within", x.copies(4, 4, 1, 1, 5, 5), 0);
        dueShown(x, 5, 5, "$F2+B$6+F6+B2:$F$6");
        due("EMPTY ones, too", x.copies(1, 0, 1, 1, 0, 0), 0);
        due("EMPTY then", x.terms(0, 0), 0);
        due("a number stays", x.write(0, 0, "7+$C$1:B2+$C2:A$1"), 3);
        dueShown(x, 0, 0, "7+B$1:$C2+A$1:$C2");
        due("to the right", x.copies(0, 0, 1, 1, 3, 0), 0);
        dueShown(x, 3, 0, "7+$C$1:E2+$C$1:D2");
        due("down", x.copies(0, 0, 1, 1, 0, 3), 0);
        dueShown(x, 0, 3, "7+B$1:$C5+A$1:$C5");
        due("nobody else's places change", x.users(3, 0), 3);
        Probe y = new Probe();
        y.write(0, 0, "A1");
        y.write(1, 0, "A1");
        y.write(2, 0, "5");
        due("as they were ahead", y.copies(0, 0, 3, 1, 1, 0), 0);
        dueShown(y, 0, 0, "A1");
        dueShown(y, 1, 0, "B1");
        dueShown(y, 2, 0, "B1");
        dueShown(y, 3, 0, "5");
        due("back over itself", y.copies(1, 0, 3, 1, 0, 0), 0);
        dueShown(y, 0, 0, "A1");
        dueShown(y, 1, 0, "A1");
        dueShown(y, 2, 0, "5");
        dueShown(y, 3, 0, "5");
        due("onto itself", y.copies(0, 0, 6, 6, 0, 0), 0);
        due("a state each", y.told(4), 6);
        due("source", y.copies(4, 0, 3, 1, 0, 0), BAD);
        due("target", y.copies(0, 0, 3, 1, 4, 0), BAD);
        due("height", y.copies(0, 0, 1, 7, 0, 0), BAD);
        due("far", y.copies(0, 0, 1, 1, HIGH, LOW), BAD);
        due("wrapping around", y.copies(5, 5, HIGH, 1, 5, 5), BAD);
        due("counted", y.told(0), 5);
    }

    private static void back() {
        Due.sentence("10 back");
        Probe x = new Probe();
        due("none", x.back(), NO);
        due("counted", x.told(1), 1);
        long[] seen = new long[10];
        for (int i = 0; i < 10; i++) {
            seen[i] = x.cellsDigest();
            x.write(i % 6, i / 6, "A1:B2+" + i);
        }
        due("six at most", x.told(4), 6);
        for (int i = 9; i >= 4; i--) {
            due("back", x.back(), i - 4);
            due("just as it was", x.cellsDigest(), seen[i]);
        }
        due("older ones are lost", x.back(), NO);
        due("nothing changed", x.cellsDigest(), seen[4]);
        due("the text stays", x.told(3), 7);
        x.write(5, 5, "C3");
        x.comes(0, 0, 0);
        x.comes(0, 0, 6);
        due("refused ones leave none", x.told(4), 1);
        x.goes(0, 0, 6);
        due("all gone, then back", x.back(), 1);
        dueShown(x, 5, 5, "C3");
        due("value of what is back", x.value(5, 5), 0);
    }

    private static void terms() {
        Due.sentence("11 terms");
        Probe x = new Probe();
        x.write(5, 0, "1+2+3+4");
        x.write(0, 5, "A1");
        due("four", x.terms(5, 0), 4);
        due("one", x.terms(0, 5), 1);
        due("none", x.terms(0, 0), 0);
        x.write(5, 0, "1+2");
        due("two", x.terms(5, 0), 2);
        due("column", x.terms(-1, 0), BAD);
        due("column above", x.terms(6, 0), BAD);
        due("row", x.terms(0, 6), BAD);
        due("far", x.terms(LOW, HIGH), BAD);
        due("counted", x.told(0), 4);
    }

    private static void term() {
        Due.sentence("12 term");
        Probe x = new Probe();
        x.write(4, 3, "999+$C$5+$B1:F$6+#");
        dueTerm(x, 4, 3, 0, 0, 999, 0, 0, 0, 0);
        dueTerm(x, 4, 3, 1, 1, 2, 4, 0, 0, 3);
        dueTerm(x, 4, 3, 2, 2, 1, 0, 5, 5, 9);
        dueTerm(x, 4, 3, 3, 3, 0, 0, 0, 0, 0);
        x.write(0, 0, "0+$A1+A$1+A$1:$A1");
        dueTerm(x, 0, 0, 0, 0, 0, 0, 0, 0, 0);
        dueTerm(x, 0, 0, 1, 1, 0, 0, 0, 0, 1);
        dueTerm(x, 0, 0, 2, 1, 0, 0, 0, 0, 2);
        dueTerm(x, 0, 0, 3, 2, 0, 0, 0, 0, 6);
        x.goes(0, 0, 1);
        x.write(0, 0, "$F$6:$E$5");
        dueTerm(x, 0, 0, 0, 2, 4, 4, 5, 5, 15);
        x.moves(0, 5, 6, 1, 0, 0);
        x.write(1, 1, "$F$6");
        x.goes(0, 5, 1);
        dueTerm(x, 1, 1, 0, 3, 0, 0, 0, 0, 0);
        x.write(2, 1, "1+2+3+4");
        x.write(3, 1, "5");
        int bads = x.told(0);
        due("a fifth, though a cell is behind", x.term(2, 1, 4, 0), BAD);
        due("no such TERM", x.term(1, 1, 1, 0), BAD);
        due("i below", x.term(1, 1, -1, 0), BAD);
        due("i far", x.term(1, 1, HIGH, 0), BAD);
        due("EMPTY", x.term(5, 5, 0, 0), BAD);
        due("what below", x.term(1, 1, 0, -1), BAD);
        due("what above", x.term(1, 1, 0, 6), BAD);
        due("column", x.term(6, 1, 0, 0), BAD);
        due("row", x.term(1, -1, 0, 0), BAD);
        due("fifth", x.term(1, 1, 4, 0), BAD);
        due("counted", x.told(0), bads + 10);
    }

    private static void shown() {
        Due.sentence("13 shown");
        Probe x = new Probe();
        String longest = "$A$1:$F$6+$B$2:$C$3+$A$1:$F$6+$B$2:$C$3";
        x.write(3, 2, longest);
        dueShown(x, 3, 2, longest);
        due("behind the last", x.shown(3, 2, 39), NONE);
        due("far behind", x.shown(3, 2, HIGH), NONE);
        due("EMPTY", x.shown(0, 0, 0), NONE);
        x.write(0, 0, "0+9+10+100");
        dueShown(x, 0, 0, "0+9+10+100");
        x.write(0, 0, "99+101+010+a$2");
        dueShown(x, 0, 0, "99+101+10+A$2");
        int bads = x.told(0);
        due("k below", x.shown(0, 0, -1), BAD);
        due("k far below", x.shown(0, 0, LOW), BAD);
        due("column", x.shown(6, 0, 0), BAD);
        due("row", x.shown(0, -1, 0), BAD);
        due("counted", x.told(0), bads + 4);
    }

    private static void value() {
        Due.sentence("14 value");
        Probe x = new Probe();
        x.write(0, 0, "1+2+3+994");
        x.write(1, 0, "A1+A1");
        x.write(2, 0, "A1:B1+A1:B2+F6+5");
        due("numbers", x.value(0, 0), 1000);
        due("places", x.value(1, 0), 2000);
        due("blocks", x.value(2, 0), 6005);
        due("EMPTY", x.value(3, 3), 0);
        x.write(0, 0, "0");
        due("followed by all", x.value(2, 0), 5);
        x.back();
        due("and back", x.value(2, 0), 6005);
        due("column", x.value(6, 0), BAD);
        due("row", x.value(0, -1), BAD);
        due("far", x.value(LOW, LOW), BAD);
        due("counted", x.told(0), 3);
        Probe y = greatSums();
        due("just 99999", y.value(0, 3), 99999);
        y.write(0, 4, "A4");
        due("just 99999 by a place", y.value(0, 4), 99999);
        y.write(0, 4, "A4+1");
        due("above", y.value(0, 4), -13);
        y.write(0, 4, "1+A4+#");
        due("above ahead of broken", y.value(0, 4), -13);
        y.write(0, 4, "#+A4+1");
        due("broken ahead of above", y.value(0, 4), -11);
    }

    /** A4 is 99999 there, from cells of row 1 to 3. */
    private static Probe greatSums() {
        Probe x = new Probe();
        x.write(0, 0, "999+999+2");
        x.write(1, 0, "A1+A1+A1+A1");
        x.write(2, 0, "B1+B1+B1+B1");
        x.write(3, 0, "C1+C1+C1");
        due("96000", x.value(3, 0), 96000);
        x.write(0, 1, "A1+A1");
        x.write(0, 3, "D1+A1+999+A3");
        x.write(0, 2, "999+1");
        due("99999 yet to come", x.value(0, 3), 99999);
        return x;
    }

    private static void faults() {
        Due.sentence("15 why, 16 deep");
        Probe x = new Probe();
        x.write(4, 5, "1+#");
        x.write(3, 2, "E6");
        x.write(2, 2, "1+D3");
        dueFaultOf(x, 4, 5, 1, 45, 0);
        dueFaultOf(x, 3, 2, 1, 45, 1);
        dueFaultOf(x, 2, 2, 1, 45, 2);
        dueFaultOf(x, 0, 0, 0, NONE, NONE);
        Probe y = new Probe();
        y.write(0, 1, "B2");
        y.write(1, 1, "C2");
        y.write(2, 1, "B2");
        dueFaultOf(y, 0, 1, 2, 11, 2);
        dueFaultOf(y, 1, 1, 2, 11, 1);
        dueFaultOf(y, 2, 1, 2, 21, 1);
        y.write(5, 5, "F6");
        dueFaultOf(y, 5, 5, 2, 55, 0);
        y.write(4, 4, "E4:F6");
        dueFaultOf(y, 4, 4, 2, 44, 0);
        Probe z = greatSums();
        z.write(5, 5, "A4+A1");
        z.write(5, 4, "A1+F6");
        dueFaultOf(z, 5, 5, 3, 55, 0);
        dueFaultOf(z, 5, 4, 3, 55, 1);
        dueFaultOf(z, 0, 3, 0, NONE, NONE);
        due("why: column", z.why(6, 0), BAD);
        due("why: row", z.why(0, -1), BAD);
        due("deep: column", z.deep(-1, 0), BAD);
        due("deep: row", z.deep(0, 6), BAD);
        due("deep: far", z.deep(HIGH, LOW), BAD);
        due("counted", z.told(0), 5);
    }

    private static void faultOrder() {
        Due.sentence("14 to 16, the first fault that is met");
        Probe x = new Probe();
        x.write(0, 0, "B1+#");
        x.write(1, 0, "A1");
        dueFaultOf(x, 0, 0, 2, 0, 1);
        dueFaultOf(x, 1, 0, 2, 10, 1);
        x.write(0, 0, "#+B1");
        dueFaultOf(x, 0, 0, 1, 0, 0);
        dueFaultOf(x, 1, 0, 1, 0, 1);
        Probe y = new Probe();
        y.write(1, 1, "#");
        y.write(2, 0, "C1");
        y.write(0, 1, "B2+1");
        y.write(5, 5, "A1:C2");
        y.write(5, 4, "C2:A1");
        dueFaultOf(y, 5, 5, 2, 20, 1);
        y.empties(2, 0);
        dueFaultOf(y, 5, 4, 1, 11, 2);
        y.empties(0, 1);
        dueFaultOf(y, 5, 4, 1, 11, 1);
        Probe z = greatSums();
        z.write(1, 3, "#");
        z.write(5, 5, "1+A4:B4");
        dueFaultOf(z, 5, 5, 3, 55, 0);
        z.write(5, 5, "A4:B4+1");
        dueFaultOf(z, 5, 5, 1, 13, 1);
        z.write(1, 3, "1");
        z.write(2, 3, "A4:C4");
        z.write(5, 5, "C4");
        dueFaultOf(z, 2, 3, 3, 23, 0);
        dueFaultOf(z, 5, 5, 3, 23, 1);
        z.write(1, 3, "0");
        dueFaultOf(z, 2, 3, 2, 23, 0);
    }

    /** A chain through all cells, each asking its next one three times. */
    private static void longAsking() {
        Due.sentence("14 to 16, a chain through all cells");
        Probe x = new Probe();
        x.write(0, 0, "B1:B1+B1+0+B1");
        x.copies(0, 0, 1, 1, 1, 0);
        x.copies(0, 0, 2, 1, 2, 0);
        x.copies(3, 0, 1, 1, 4, 0);
        x.write(5, 0, "A2:A2+A2+0+A2");
        for (int r = 1; r < 6; r++) {
            x.copies(0, 0, 6, 1, 0, r);
        }
        x.empties(5, 5);
        due("all 0", x.value(0, 0), 0);
        x.write(5, 5, "#");
        dueFaultOf(x, 0, 0, 1, 55, 35);
        x.write(5, 5, "A1");
        dueFaultOf(x, 0, 0, 2, 0, 35);
        dueFaultOf(x, 3, 0, 2, 30, 35);
        x.write(5, 5, "F6");
        dueFaultOf(x, 0, 0, 2, 55, 35);
        x.write(5, 5, "1");
        dueFaultOf(x, 0, 0, 3, 4, 24);
        due("3 to the tenth", x.value(1, 4), 59049);
        due("cells with a fault", x.count(3), 25);
    }

    private static void users() {
        Due.sentence("17 users");
        Probe x = new Probe();
        x.write(0, 0, "A1+$A$1+A1:B2+5");
        x.write(1, 1, "B2:C3+A2:F2+#+B2");
        due("A1", x.users(0, 0), 3);
        due("B2", x.users(1, 1), 4);
        due("C3", x.users(2, 2), 1);
        due("F2", x.users(5, 1), 1);
        due("C1", x.users(2, 0), 0);
        due("B1", x.users(1, 0), 1);
        due("D3", x.users(3, 2), 0);
        due("A3", x.users(0, 2), 0);
        x.write(0, 0, "E1:F2");
        due("left of a block", x.users(3, 0), 0);
        due("a block of the first cell", x.users(4, 0), 1);
        due("its end", x.users(5, 1), 2);
        due("column", x.users(6, 0), BAD);
        due("row", x.users(0, -1), BAD);
        due("far", x.users(HIGH, 0), BAD);
        due("counted", x.told(0), 3);
    }

    private static void count() {
        Due.sentence("18 count");
        Probe x = new Probe();
        x.write(0, 0, "#+1+#");
        x.write(1, 0, "A1+2");
        x.write(2, 0, "C1");
        x.write(3, 0, "7+8+9+A6");
        due("cells", x.count(0), 4);
        due("terms", x.count(1), 10);
        due("broken", x.count(2), 2);
        due("with a fault", x.count(3), 3);
        due("below", x.count(-1), BAD);
        due("above", x.count(4), BAD);
        due("far", x.count(LOW), BAD);
        due("counted", x.told(0), 3);
    }

    private static void told() {
        Due.sentence("19 told");
        Probe x = new Probe();
        due("below", x.told(-1), BAD);
        due("above", x.told(5), BAD);
        due("far", x.told(HIGH), BAD);
        due("BAD, by itself too", x.told(0), 3);
        x.back();
        x.back();
        due("NO", x.told(1), 2);
        x.types("1".repeat(60));
        x.type('1');
        due("FULL", x.told(2), 1);
        due("bytes", x.told(3), 60);
        due("put has a fault", x.put(0, 0), -13);
        due("BAD stays", x.told(0), 3);
        due("NO stays", x.told(1), 2);
        due("FULL stays", x.told(2), 1);
        x.empties(0, 0);
        x.moves(0, 0, 1, 1, 1, 1);
        x.copies(0, 0, 1, 1, 1, 1);
        x.comes(0, 0, 1);
        x.goes(0, 0, 1);
        due("states", x.told(4), 5);
    }

    private static void digest() {
        Due.sentence("20 digest");
        due("of a new one", new Probe().digest(), slowDigest(Probe::new));
        due("of a used one", used().digest(), slowDigest(PromiseTest::used));
        due("of a full one", filled().digest(), slowDigest(PromiseTest::filled));
        Probe x = used();
        long before = x.digest();
        due("twice the same", x.digest(), before);
        long then = x.digestOneMore(0);
        x.type(-1);
        due("of a refusal more", x.digest(), then);
    }

    private static Probe used() {
        Probe x = new Probe();
        x.write(0, 0, "B1+#");
        x.write(1, 0, "A1:C$3+999");
        x.write(3, 4, "$F$6+A6");
        for (int i = 0; i < 4; i++) {
            x.back();
        }
        x.type(-1);
        x.write(5, 2, "F4:F3+$B$6");
        x.write(2, 5, "1+22+333+#");
        return x;
    }

    private static Probe filled() {
        Probe x = new Probe();
        x.types("A$1:$F6+999+$B2+#");
        for (int cell = 0; cell < 36; cell++) {
            x.put(cell % 6, cell / 6);
        }
        return x;
    }

    /** A row from a new object each time: all cells of one would be too many calls. */
    private static long slowDigest(Recipe recipe) {
        Probe x = recipe.make();
        long h = 1626;
        for (int what = 0; what <= 4; what++) {
            h = 31 * h + x.told(what);
        }
        for (int what = 0; what <= 3; what++) {
            h = 31 * h + x.count(what);
        }
        for (int r = 0; r < 6; r++) {
            h = rowDigest(recipe.make(), r, h);
        }
        return h;
    }

    private static long rowDigest(Probe x, int r, long before) {
        long h = before;
        for (int c = 0; c < 6; c++) {
            int size = x.terms(c, r);
            h = 31 * h + size;
            for (int i = 0; i < size; i++) {
                for (int what = 0; what <= 5; what++) {
                    h = 31 * h + x.term(c, r, i, what);
                }
            }
            h = 31 * h + x.value(c, r);
            h = 31 * h + x.why(c, r);
        }
        return h;
    }

    private interface Recipe {
        Probe make();
    }

    private static void dueRead(Probe x, String text, String want) {
        due("terms of " + text, x.write(2, 2, text), want.split("\\+").length);
        dueShown(x, 2, 2, want);
    }

    private static void dueFault(Probe x, String text, int place) {
        due("put of \"" + text + "\"", x.write(1, 1, text), -10 - place);
        due("the text stays", x.told(3), text.length());
    }

    private static void dueShown(Probe x, int c, int r, String want) {
        due("cell " + c + ", " + r, x.written(c, r), want);
    }

    private static void dueTerm(Probe x, int c, int r, int i, int... want) {
        Due.dueTerm(x, c, r, i, want);
    }

    private static void dueFaultOf(Probe x, int c, int r, int fault, int why, int deep) {
        String cell = c + ", " + r;
        if (fault != 0) {
            due("value of " + cell, x.value(c, r), -10 - fault);
        } else if (x.value(c, r) < 0) {
            Due.fail("value of " + cell + " is " + x.value(c, r));
        }
        due("why of " + cell, x.why(c, r), why);
        due("deep of " + cell, x.deep(c, r), deep);
    }

    private static void due(String what, long got, long want) {
        Due.due(what, got, want);
    }

    private static void due(String what, String got, String want) {
        Due.due(what, got, want);
    }
}

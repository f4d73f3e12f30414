/** The text, byte by byte, and its reading as a formula: each bound of type, clear and put. */
public final class TextEdgeTest {
    private static final String FIGURES = "0123456789";
    private static final String ROWS = "123456";
    private static final String COLUMNS = "ABCDEFabcdef";
    private static final String TERM_STARTS = FIGURES + COLUMNS + "$#";
    private static final String BLANK = " ";

    /** A beginning of a text, and the bytes that can stand behind it; "." marks a whole formula. */
    private static final String[][] BEGINNINGS = {
        {"", TERM_STARTS + BLANK, ""},
        {" ", TERM_STARTS + BLANK, ""},
        {"7", FIGURES + "+" + BLANK, "."},
        {"0", FIGURES + "+" + BLANK, "."},
        {"78", FIGURES + "+" + BLANK, "."},
        {"00", FIGURES + "+" + BLANK, "."},
        {"789", "+" + BLANK, "."},
        {"000", "+" + BLANK, "."},
        {"7 ", "+" + BLANK, "."},
        {"78 ", "+" + BLANK, "."},
        {"#", "+" + BLANK, "."},
        {"# ", "+" + BLANK, "."},
        {"$", COLUMNS + BLANK, ""},
        {"$ ", COLUMNS + BLANK, ""},
        {"B", "$" + ROWS + BLANK, ""},
        {"f ", "$" + ROWS + BLANK, ""},
        {"$B", "$" + ROWS + BLANK, ""},
        {"B$", ROWS + BLANK, ""},
        {"B$ ", ROWS + BLANK, ""},
        {"B3", "+:" + BLANK, "."},
        {"B3 ", "+:" + BLANK, "."},
        {"$B$3", "+:" + BLANK, "."},
        {"B3:", "$" + COLUMNS + BLANK, ""},
        {"B3: ", "$" + COLUMNS + BLANK, ""},
        {"B3:$", COLUMNS + BLANK, ""},
        {"B3:C", "$" + ROWS + BLANK, ""},
        {"B3:C$", ROWS + BLANK, ""},
        {"B3:C4", "+" + BLANK, "."},
        {"B3:C4 ", "+" + BLANK, "."},
        {"7+", TERM_STARTS + BLANK, ""},
        {"#+B3+", TERM_STARTS + BLANK, ""},
        {"7+8+9+", TERM_STARTS + BLANK, ""},
        {"7+8+9+B3", "+:" + BLANK, "."},
        {"7+8+9+#", "+" + BLANK, "."},
        {"7+8+9+1", FIGURES + "+" + BLANK, "."},
        {"7+8+9+1+", BLANK, ""},
        {"7+8+9+1+ ", BLANK, ""},
        {"A1:B2+8+9+C3:D4+", BLANK, ""},
    };

    public static void main(String[] args) {
        bytes();
        sixtyBytes();
        behindAFullText();
        clearing();
        numbers();
        zerosAhead();
        fixedCoordinates();
        blocksToldOtherwise();
        likeOnes();
        lettersSmallOrNot();
        blanksAnywhere();
        noBlankWithinANumber();
        everyByteBehindEveryBeginning();
        endsTooEarly();
        fourTerms();
        fifthTerm();
        theFirstByteCounts();
        faultsAtTheTextsEnd();
        byAFaultAllStays();
        theTextStays();
        cellsOfTheSheet();
        Due.end();
    }

    private static void bytes() {
        Due.sentence("A byte (0 .. 127) comes behind THE TEXT: how many it has. BAD");
        Probe x = new Probe();
        for (int b = 0; b <= 127; b++) {
            if (b == 60 || b == 120) {
                x.clear();
            }
            Due.due("type(" + b + ")", x.type(b), b % 60 + 1);
        }
        int[] others = {-1, 128, 255, 256, 256 + 'A', 65536 + 'A', -128, Due.LOW, Due.HIGH};
        for (int b : others) {
            Due.due("type(" + b + ")", x.type(b), Due.BAD);
        }
        Due.due("bytes", x.told(3), 8);
        Due.due("BAD", x.told(0), others.length);
    }

    private static void sixtyBytes() {
        Due.sentence("THE TEXT (60 bytes at most)");
        String longest = "$A$1:$B$2+$A$1:$B$2+$A$1:$B$2+$A$1:$B$2";
        Probe x = new Probe();
        x.types(" ".repeat(20) + longest);
        Due.due("59 bytes", x.told(3), 59);
        Due.due("the 60th", x.type(' '), 60);
        Due.due("put of 60", x.put(0, 0), 4);
        Due.due("A1", x.written(0, 0), longest);
        Due.due("the 61st", x.type('+'), Due.FULL);
        Due.due("put again", x.put(0, 0), 4);
    }

    private static void behindAFullText() {
        Due.sentence("FULL: 60");
        Probe x = new Probe();
        x.types("7".repeat(59));
        Due.due("FULL not yet", x.told(2), 0);
        Due.due("the last", x.type('7'), 60);
        for (int times = 1; times <= 3; times++) {
            Due.due("one more", x.type('7'), Due.FULL);
            Due.due("so often", x.told(2), times);
            Due.due("still 60", x.told(3), 60);
        }
        Due.due("BAD is told first", x.type(128), Due.BAD);
        Due.due("BAD is told first, below", x.type(-1), Due.BAD);
        Due.due("FULL stays", x.told(2), 3);
        Due.due("the fault is where it was", x.put(0, 0), -13);
        Due.due("clear", x.clear(), 60);
        Due.due("room again", x.type('8'), 1);
        Due.due("the new text alone", x.put(0, 0), 1);
        Due.due("A1", x.written(0, 0), "8");
    }

    private static void clearing() {
        Due.sentence("THE TEXT is empty: how many it had");
        Probe x = new Probe();
        Due.due("a new one", x.clear(), 0);
        Due.due("empty", x.put(0, 0), -10);
        x.type('5');
        Due.due("one", x.clear(), 1);
        Due.due("none", x.clear(), 0);
        Due.due("empty again", x.put(0, 0), -10);
        x.types("5".repeat(60));
        Due.due("all", x.clear(), 60);
        Due.due("bytes", x.told(3), 0);
        Due.due("no state, nothing refused", x.digest(), new Probe().digest());
    }

    private static void numbers() {
        Due.sentence("a NUMBER (0 .. 999): 1 to 3 figures");
        for (int number : new int[] {0, 1, 9, 10, 11, 99, 100, 101, 110, 998, 999}) {
            Probe x = Probe.with(3, 2, "" + number);
            Due.dueTerm(x, 3, 2, 0, 0, number, 0, 0, 0, 0);
            Due.due("written", x.written(3, 2), "" + number);
            Due.due("value", x.value(3, 2), number);
        }
        dueFault("1000", 3);
        dueFault("9999", 3);
        dueFault("-1", 0);
    }

    private static void zerosAhead() {
        Due.sentence("0s ahead of a NUMBER let (3 figures at most)");
        Due.due("00", Probe.with(0, 0, "00").written(0, 0), "0");
        Due.due("000", Probe.with(0, 0, "000").written(0, 0), "0");
        Due.due("07", Probe.with(0, 0, "07").written(0, 0), "7");
        Due.due("007", Probe.with(0, 0, "007").written(0, 0), "7");
        Due.due("070", Probe.with(0, 0, "070").written(0, 0), "70");
        dueFault("0000", 3);
        dueFault("0007", 3);
        dueFault("0070", 3);
    }

    private static void fixedCoordinates() {
        Due.sentence("Each coordinate of a PLACE, of a BLOCK is FIXED or not");
        for (int fixed = 0; fixed < 16; fixed++) {
            String first = dollar(fixed, 0) + "B" + dollar(fixed, 1) + "3";
            String second = dollar(fixed, 2) + "E" + dollar(fixed, 3) + "5";
            Probe x = Probe.with(0, 0, first + "+" + first + ":" + second);
            Due.dueTerm(x, 0, 0, 0, 1, 1, 2, 0, 0, fixed & 3);
            Due.dueTerm(x, 0, 0, 1, 2, 1, 2, 4, 4, fixed);
            Due.due("written", x.written(0, 0), first + "+" + first + ":" + second);
        }
    }

    private static void blocksToldOtherwise() {
        Due.sentence("of two told otherwise each coordinate, with its $, goes to where it belongs");
        for (int fixed = 0; fixed < 16; fixed++) {
            String least = dollar(fixed, 0) + "B";
            String leastRow = dollar(fixed, 1) + "3";
            String greatest = dollar(fixed, 2) + "C";
            String greatestRow = dollar(fixed, 3) + "4";
            String want = least + leastRow + ":" + greatest + greatestRow;
            Due.due("as written", blockOf(least + leastRow, greatest + greatestRow), want);
            Due.due("columns", blockOf(greatest + leastRow, least + greatestRow), want);
            Due.due("rows", blockOf(least + greatestRow, greatest + leastRow), want);
            Due.due("both", blockOf(greatest + greatestRow, least + leastRow), want);
        }
    }

    private static void likeOnes() {
        Due.sentence("of like ones the first stays first");
        for (int fixed = 0; fixed < 16; fixed++) {
            String first = dollar(fixed, 0) + "D" + dollar(fixed, 1) + "4";
            String second = dollar(fixed, 2) + "D" + dollar(fixed, 3) + "4";
            Due.due("one cell", blockOf(first, second), first + ":" + second);
            String further = dollar(fixed, 2) + "D" + dollar(fixed, 3) + "5";
            Due.due("one column", blockOf(first, further), first + ":" + further);
            String told = dollar(fixed, 0) + "D" + dollar(fixed, 3) + "4:"
                + dollar(fixed, 2) + "D" + dollar(fixed, 1) + "5";
            String lower = dollar(fixed, 0) + "D" + dollar(fixed, 1) + "5";
            String upper = dollar(fixed, 2) + "D" + dollar(fixed, 3) + "4";
            Due.due("one column, rows told otherwise", blockOf(lower, upper), told);
        }
        Due.due("a block of one stays a BLOCK", Probe.with(0, 0, "A1:A1").term(0, 0, 0, 0), 2);
    }

    private static void lettersSmallOrNot() {
        Due.sentence("letters small or not; a column's letter behind F");
        for (int column = 0; column < 6; column++) {
            String written = (char) ('A' + column) + "6";
            Due.due("great", Probe.with(0, 0, written).written(0, 0), written);
            Due.due("small", Probe.with(0, 0, (char) ('a' + column) + "6").written(0, 0), written);
        }
        for (String other : new String[] {"@", "G", "Z", "`", "g", "z", "H", "h", "!", "&"}) {
            dueFault(other + "1", 0);
            dueFault("$" + other + "1", 1);
            dueFault("A1:" + other + "1", 3);
        }
    }

    private static void blanksAnywhere() {
        Due.sentence("blanks (32) anywhere but within a NUMBER");
        String text = "$A$1:$B2+c3+#+12";
        String bare = "$A$1:$B2+C3+#+12";
        for (int place = 0; place <= text.length(); place++) {
            if (place == text.length() - 1) {
                continue;
            }
            String spaced = text.substring(0, place) + "   " + text.substring(place);
            Due.due(spaced, Probe.with(0, 0, spaced).written(0, 0), bare);
            for (int other : new int[] {0, 9, 10, 13, 31, 33, 127}) {
                dueFault(text.substring(0, place) + (char) other + text.substring(place), place);
            }
        }
    }

    private static void noBlankWithinANumber() {
        Due.sentence("blanks anywhere but within a NUMBER: what can not stand is the figure behind");
        dueFault("1 2", 2);
        dueFault("12 3", 3);
        dueFault("1 23", 2);
        dueFault("0 0", 2);
        dueFault("1   2", 4);
        dueFault("A1+1 2", 5);
        dueFault("1 2+G1", 2);
    }

    private static void everyByteBehindEveryBeginning() {
        Due.sentence("FAULT: the place of the first byte that can not stand there");
        for (String[] beginning : BEGINNINGS) {
            for (int b = 0; b <= 127; b++) {
                String text = beginning[0] + (char) b;
                int answer = new Probe().write(2, 2, text);
                boolean stands = answer > 0 || answer == -10 - text.length();
                boolean due = beginning[1].indexOf(b) >= 0;
                Due.due("byte " + b + " behind '" + beginning[0] + "' stands", stands ? 1 : 0, due ? 1 : 0);
                if (!due) {
                    dueFault(text, beginning[0].length());
                    dueFault(text + "+G", beginning[0].length());
                }
            }
        }
    }

    private static void endsTooEarly() {
        Due.sentence("FAULT: the TEXT's length, if it ends too early");
        for (String[] beginning : BEGINNINGS) {
            if (beginning[2].isEmpty()) {
                dueFault(beginning[0], beginning[0].length());
            } else {
                Due.due("'" + beginning[0] + "'", new Probe().write(0, 0, beginning[0]),
                    beginning[0].split("\\+").length);
            }
        }
        Due.sentence("FAULT: the TEXT's length; one that is empty or has blanks alone, too");
        for (int length = 0; length <= 60; length++) {
            dueFault(" ".repeat(length), length);
        }
    }

    private static void fourTerms() {
        Due.sentence("A FORMULA: 1 to 4 TERMS");
        String[] terms = {"7", "$B$3", "A1:C$2", "#"};
        String text = "";
        for (int size = 1; size <= 4; size++) {
            text += (size == 1 ? "" : "+") + terms[size - 1];
            Probe x = new Probe();
            Due.due("put", x.write(4, 1, text), size);
            Due.due("terms", x.terms(4, 1), size);
            Due.due("written", x.written(4, 1), text);
        }
        Due.due("four of the last", new Probe().write(0, 0, "#+#+#+#"), 4);
    }

    private static void fifthTerm() {
        Due.sentence("FAULT: a fifth TERM's first byte");
        for (String fifth : new String[] {"7", "$B$3", "A1:C$2", "#", "f6", "000"}) {
            dueFault("1+2+3+4+" + fifth, 8);
            dueFault("1+2+3+4+  " + fifth, 10);
            dueFault("1+2+3+4 +" + fifth, 9);
            dueFault("A1:B2+$C$3+#+999+" + fifth + "+1", 17);
        }
        dueFault("1+2+3+4+", 8);
        dueFault("1+2+3+4+   ", 11);
        dueFault("1+2+3+4++", 8);
    }

    private static void theFirstByteCounts() {
        Due.sentence("FAULT: the first byte");
        dueFault("G0", 0);
        dueFault("A0+G1", 1);
        dueFault("A7:G1", 1);
        dueFault("A1:G0", 3);
        dueFault("1234+1++", 3);
        dueFault("1+2+3+4+G", 8);
        Due.sentence("FAULT: a row's figure 0 or above 6");
        for (String other : new String[] {"0", "7", "8", "9", "A", "-", "/", ":"}) {
            dueFault("A" + other, 1);
            dueFault("A$" + other, 2);
            dueFault("A1:B" + other, 4);
            dueFault("A1:$B$" + other, 6);
        }
        dueFault("A10", 2);
        dueFault("A01", 1);
    }

    private static void faultsAtTheTextsEnd() {
        Due.sentence("-10 less the FAULT: at the 60th byte, and behind it");
        dueFault(" ".repeat(59) + "G", 59);
        dueFault(" ".repeat(59) + "$", 60);
        dueFault(" ".repeat(59) + "A", 60);
        Due.due("a term at the end", new Probe().write(0, 0, " ".repeat(59) + "7"), 1);
        Due.due("a place at the end", new Probe().write(0, 0, " ".repeat(58) + "A1"), 1);
        dueFault("1+2+3+4+" + " ".repeat(51) + "5", 59);
        dueFault("1+2+3+4+" + " ".repeat(52), 60);
    }

    private static void byAFaultAllStays() {
        Due.sentence("-10 less the FAULT (all stays, no S; nothing counts)");
        for (String text : new String[] {"", " ", "G1", "A1+", "1234", "1+2+3+4+5", "A1:B9"}) {
            Probe x = Probe.with(1, 1, "A1:B2+5");
            x.write(0, 0, "#");
            x.clear();
            x.types(text);
            long before = x.digest();
            Due.due("'" + text + "' has a fault", x.put(1, 1) <= -10 ? 1 : 0, 1);
            Due.due("on an EMPTY one", x.put(3, 3) <= -10 ? 1 : 0, 1);
            Due.due("nothing is other", x.digest(), before);
            Due.due("nothing refused", x.told(0) + x.told(1) + x.told(2), 0);
            Due.due("no STATE", x.told(4), 2);
            Due.due("B2", x.written(1, 1), "A1:B2+5");
        }
    }

    private static void theTextStays() {
        Due.sentence("CELL c, r has THE TEXT as FORMULA (THE TEXT stays)");
        Probe x = new Probe();
        x.types("a1 + 5");
        for (int i = 0; i < 6; i++) {
            Due.due("put", x.put(i, 5 - i), 2);
            Due.due("bytes", x.told(3), 6);
            Due.due("written", x.written(i, 5 - i), "A1+5");
        }
        x.types("+");
        Due.due("by a FAULT, too", x.put(0, 0), -17);
        Due.due("bytes", x.told(3), 7);
        x.types("#");
        Due.due("gone on with", x.put(0, 0), 3);
        Due.due("written", x.written(0, 0), "A1+5+#");
        Due.due("the others stay", x.written(0, 5), "A1+5");
    }

    private static void cellsOfTheSheet() {
        Due.sentence("CELLS in columns 0 .. 5 (A .. F) and rows 0 .. 5 (1 .. 6)");
        Probe x = new Probe();
        for (int cell = 0; cell < 36; cell++) {
            x.clear();
            x.types("" + (100 + cell));
            Due.due("put", x.put(cell % 6, cell / 6), 1);
        }
        for (int cell = 0; cell < 36; cell++) {
            Due.due("cell " + cell, x.term(cell % 6, cell / 6, 0, 1), 100 + cell);
        }
        Due.due("all", x.count(0), 36);
        for (int cell = 0; cell < 36; cell++) {
            String name = "" + (char) ('A' + cell % 6) + (char) ('1' + cell / 6);
            Due.dueTerm(Probe.with(0, 0, name), 0, 0, 0, 1, cell % 6, cell / 6, 0, 0, 0);
        }
    }

    private static String dollar(int fixed, int bit) {
        return (fixed >> bit & 1) == 1 ? "$" : "";
    }

    private static String blockOf(String first, String second) {
        return Probe.with(5, 0, first + ":" + second).written(5, 0);
    }

    private static void dueFault(String text, int place) {
        Probe x = new Probe();
        Due.due("put of '" + text + "'", x.write(1, 4, text), -10 - place);
    }
}

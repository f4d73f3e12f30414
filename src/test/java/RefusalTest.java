/**
 * Every call that is refused changes nothing but how often: two sheets are made alike, one of them
 * refuses the call, and all that can be seen of both is compared then, states and text, too.
 */
public final class RefusalTest {
    private static final int BADS = 0, NOS = 1, FULLS = 2;
    private static final int[] OTHERS = {-1, 6, Due.LOW, Due.HIGH};

    private interface Recipe {
        Probe make();
    }

    private interface Call {
        long on(Probe x);
    }

    private static final Recipe[] RECIPES = {Probe::new, RefusalTest::used, RefusalTest::stuffed};

    public static void main(String[] args) {
        badCells();
        badLines();
        badAreas();
        badWhats();
        badAheadOfOthers();
        noes();
        fulls();
        faultsOfPut();
        gettersChangeNothing();
        refusedAgainAndAgain();
        Due.end();
    }

    private static void badCells() {
        Due.sentence("Refused, changing nothing but how often: BAD, a column or a row");
        for (int other : OTHERS) {
            for (int turn = 0; turn <= 1; turn++) {
                int c = turn == 0 ? other : 2;
                int r = turn == 0 ? 2 : other;
                dueBad("put", x -> x.put(c, r));
                dueBad("empties", x -> x.empties(c, r));
                dueBad("terms", x -> x.terms(c, r));
                dueBad("term", x -> x.term(c, r, 0, 0));
                dueBad("shown", x -> x.shown(c, r, 0));
                dueBad("value", x -> x.value(c, r));
                dueBad("why", x -> x.why(c, r));
                dueBad("deep", x -> x.deep(c, r));
                dueBad("users", x -> x.users(c, r));
            }
        }
    }

    private static void badLines() {
        Due.sentence("Refused, changing nothing but how often: BAD, a way, a line or how many");
        for (int other : OTHERS) {
            dueBad("comes, way", x -> x.comes(other, 0, 1));
            dueBad("comes, a", x -> x.comes(0, other, 1));
            dueBad("goes, way", x -> x.goes(other, 0, 1));
            dueBad("goes, a", x -> x.goes(1, other, 1));
            dueBad("goes, together", x -> x.goes(0, 1, other));
        }
        for (int n : new int[] {0, -1, 7, Due.LOW, Due.HIGH}) {
            dueBad("comes, n", x -> x.comes(1, 0, n));
            dueBad("goes, n", x -> x.goes(1, 0, n));
        }
        for (int a = 1; a <= 5; a++) {
            int line = a;
            dueBad("goes, together", x -> x.goes(0, line, 7 - line));
            dueBad("goes, together", x -> x.goes(1, line, 6));
        }
    }

    private static void badAreas() {
        Due.sentence("Refused, changing nothing but how often: BAD, not within the sheet");
        int[][] areas = {
            {-1, 0, 1, 1, 0, 0}, {6, 0, 1, 1, 0, 0}, {0, -1, 1, 1, 0, 0}, {0, 6, 1, 1, 0, 0},
            {0, 0, 0, 1, 0, 0}, {0, 0, 7, 1, 0, 0}, {0, 0, 1, 0, 0, 0}, {0, 0, 1, 7, 0, 0},
            {0, 0, 1, 1, -1, 0}, {0, 0, 1, 1, 6, 0}, {0, 0, 1, 1, 0, -1}, {0, 0, 1, 1, 0, 6},
            {5, 0, 2, 1, 0, 0}, {0, 5, 1, 2, 0, 0}, {0, 0, 2, 1, 5, 0}, {0, 0, 1, 2, 0, 5},
            {1, 0, 6, 1, 0, 0}, {0, 1, 1, 6, 0, 0}, {0, 0, 6, 6, 1, 0}, {0, 0, 6, 6, 0, 1},
            {1, 1, Due.HIGH, 1, 1, 1}, {1, 1, 1, Due.HIGH, 1, 1}, {Due.HIGH, 0, Due.HIGH, 1, 0, 0},
            {Due.LOW, Due.LOW, Due.LOW, Due.LOW, Due.LOW, Due.LOW},
        };
        for (int[] m : areas) {
            dueBad("moves", x -> x.moves(m[0], m[1], m[2], m[3], m[4], m[5]));
            dueBad("copies", x -> x.copies(m[0], m[1], m[2], m[3], m[4], m[5]));
        }
    }

    private static void badWhats() {
        Due.sentence("Refused (any call, getters, too), changing nothing but how often");
        for (int other : new int[] {-1, 128, Due.LOW, Due.HIGH}) {
            dueBad("type", x -> x.type(other));
        }
        for (int other : OTHERS) {
            dueBad("term, what", x -> x.term(1, 1, 0, other));
            dueBad("term, i", x -> x.term(1, 1, other, 0));
            dueBad("count", x -> x.count(other));
            dueBad("told", x -> x.told(other));
        }
        dueRefused("term of an EMPTY one", Probe::new, BADS, x -> x.term(5, 0, 0, 0));
        dueRefused("term of an EMPTY one", RefusalTest::used, BADS, x -> x.term(5, 0, 0, 0));
        dueBad("term, the fifth", x -> x.term(1, 1, 4, 0));
        dueBad("shown, k", x -> x.shown(1, 1, -1));
        dueBad("shown, k", x -> x.shown(1, 1, Due.LOW));
        dueBad("count(4)", x -> x.count(4));
        dueBad("told(5)", x -> x.told(5));
    }

    private static void badAheadOfOthers() {
        Due.sentence("the first of: BAD; NO, FULL as told");
        dueRefused("type", RefusalTest::stuffed, BADS, x -> x.type(128));
        dueRefused("comes, n", RefusalTest::used, BADS, x -> x.comes(0, 0, 7));
        dueRefused("comes, way", RefusalTest::used, BADS, x -> x.comes(2, 0, 6));
        dueRefused("put of a FAULT", Probe::new, BADS, x -> x.put(6, 0));
    }

    private static void noes() {
        Due.sentence("Refused, changing nothing but how often: NO");
        for (int way = 0; way <= 1; way++) {
            int turn = way;
            for (int n = 1; n <= 6; n++) {
                int lines = n;
                dueRefused("comes", RefusalTest::used, NOS, x -> x.comes(turn, 5, lines));
                dueRefused("comes", RefusalTest::stuffed, NOS, x -> x.comes(turn, 0, lines));
            }
        }
        dueRefused("back", Probe::new, NOS, Probe::back);
        dueRefused("back", RefusalTest::usedUp, NOS, Probe::back);
    }

    private static void fulls() {
        Due.sentence("Refused, changing nothing but how often: FULL");
        for (int b : new int[] {0, ' ', '+', 'A', '7', 127}) {
            dueRefused("type", RefusalTest::stuffed, FULLS, x -> x.type(b));
        }
    }

    private static void faultsOfPut() {
        Due.sentence("By a FAULT of put() nothing counts");
        for (Recipe recipe : RECIPES) {
            Probe x = recipe.make();
            x.clear();
            x.types("A1+A7");
            Probe y = recipe.make();
            y.clear();
            y.types("A1+A7");
            for (int cell = 0; cell < 36; cell++) {
                Due.due("put", x.put(cell % 6, cell / 6), -14);
            }
            Due.due("nothing became other", x.digest(), y.digest());
            dueAlike("put", x, y);
        }
    }

    private static void gettersChangeNothing() {
        Due.sentence("what is told changes nothing");
        for (Recipe recipe : RECIPES) {
            Probe x = recipe.make();
            Probe y = recipe.make();
            for (int cell = 0; cell < 36; cell += 5) {
                int c = cell % 6;
                int r = cell / 6;
                x.terms(c, r);
                x.shown(c, r, 0);
                x.shown(c, r, 100);
                x.value(c, r);
                x.why(c, r);
                x.deep(c, r);
                x.users(c, r);
            }
            for (int what = 0; what <= 3; what++) {
                x.count(what);
                x.told(what);
            }
            x.told(4);
            Due.due("nothing became other", x.digest(), y.digest());
            dueAlike("getters", x, y);
        }
    }

    private static void refusedAgainAndAgain() {
        Due.sentence("how often");
        Probe x = stuffed();
        int[] before = {x.told(BADS), x.told(NOS), x.told(FULLS)};
        for (int times = 1; times <= 50; times++) {
            x.put(-1, 0);
            x.comes(0, 0, 1);
            x.type('7');
        }
        Due.due("BAD", x.told(BADS), before[BADS] + 50);
        Due.due("NO", x.told(NOS), before[NOS] + 50);
        Due.due("FULL", x.told(FULLS), before[FULLS] + 50);
    }

    private static void dueBad(String name, Call call) {
        for (Recipe recipe : RECIPES) {
            dueRefused(name, recipe, BADS, call);
        }
    }

    private static void dueRefused(String name, Recipe recipe, int how, Call call) {
        Probe tried = recipe.make();
        Probe calm = recipe.make();
        Due.due(name, call.on(tried), Due.BAD - how);
        Due.due(name + " leaves all else", tried.digest(), calm.digestOneMore(how));
        for (int what = 0; what <= 4; what++) {
            Due.due(name + ", told(" + what + ")", tried.told(what), calm.told(what) + (what == how ? 1 : 0));
        }
        dueAlike(name, tried, calm);
    }

    /** The text is seen by what put() makes of it, the states by going back through them all. */
    private static void dueAlike(String name, Probe tried, Probe calm) {
        for (int cell = 0; cell < 36; cell++) {
            int c = cell % 6;
            int r = cell / 6;
            Due.due(name + " and users", tried.users(c, r), calm.users(c, r));
            Due.due(name + " and deep", tried.deep(c, r), calm.deep(c, r));
        }
        for (int left = 7; left >= 0; left--) {
            Due.due(name + " and back", tried.back(), calm.back());
            Due.due(name + " and the state", tried.cellsDigest(), calm.cellsDigest());
        }
        Due.due(name + " and the text", tried.put(0, 5), calm.put(0, 5));
        Due.due(name + " and the text", tried.written(0, 5), calm.written(0, 5));
        Due.due(name + " and its length", tried.clear(), calm.clear());
    }

    /** Cells at all sides, faults of each kind, four states, a text, something refused. */
    private static Probe used() {
        Probe x = Probe.with(5, 5, "A1:B2+$C$3+#");
        x.write(0, 0, "F6+1");
        x.write(1, 1, "B2+7+8+9");
        x.write(0, 3, "A1:A1+$F$6:A2");
        x.type(200);
        x.clear();
        x.types(" $b$3 + 77");
        return x;
    }

    /** All cells, six states, a text of 60 bytes. */
    private static Probe stuffed() {
        Probe x = new Probe();
        x.types("5+$A1:B$2+F6");
        for (int cell = 0; cell < 36; cell++) {
            x.put(cell % 6, cell / 6);
        }
        x.clear();
        x.types("c3+" + " ".repeat(52) + "A1:B2");
        return x;
    }

    /** All states were gone back to. */
    private static Probe usedUp() {
        Probe x = used();
        for (int i = 0; i < 4; i++) {
            x.back();
        }
        return x;
    }
}

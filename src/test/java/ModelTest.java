import java.util.ArrayDeque;
import java.util.ArrayList;
import java.util.Arrays;
import java.util.HashMap;
import java.util.List;
import java.util.Map;
import java.util.Random;
import java.util.TreeSet;
import java.util.regex.Matcher;
import java.util.regex.Pattern;

/**
 * Long runs of calls, always the same ones, against a second sheet that is written in another way:
 * it holds formulas as their written texts and asks regular expressions whether a text can stand.
 */
public final class ModelTest {
    private static final int RUNS = 1500;
    private static final int CALLS = 512;

    public static void main(String[] args) {
        for (int run = 0; run < RUNS; run++) {
            if (!new Run(run).agrees()) {
                System.exit(1);
            }
        }
        System.out.println(RUNS + " runs agree with the model");
    }

    /** One run of calls on a new object and on a new model. */
    private static final class Run {
        private final int number;
        private final Random random;
        private final SheetRefs sheet = new SheetRefs();
        private final Model model = new Model();
        private final List<String> calls = new ArrayList<>();
        /** How many columns and rows most formulas are put into: a full sheet leaves no room for more. */
        private final int filled;
        /** Formulas refer to the rows above alone then: fewer rings, and sums that grow. */
        private final boolean layered;
        private int rows = 6;
        private boolean agrees = true;

        Run(int number) {
            this.number = number;
            this.filled = 1 + number % 6;
            this.layered = number % 5 < 2;
            this.random = new Random(number);
        }

        boolean agrees() {
            if (layered) {
                fillRow(0, "999+" + random.nextInt(1000));
                fillRow(1, "A1:F1+A1:C$1");
                fillRow(2, random.nextBoolean() ? "$A2:E2" : "A1:F2+A2");
            }
            while (agrees && calls.size() < CALLS) {
                int kind = random.nextInt(20);
                if (kind < 7) {
                    writeFormula();
                } else if (kind < (layered ? 9 : 12)) {
                    change();
                } else {
                    look();
                }
            }
            if (agrees) {
                see("digest()", sheet.digest(), model.digest());
            }
            return agrees;
        }

        private void fillRow(int r, String text) {
            writeText(text);
            for (int c = 0; c < 6 && agrees; c++) {
                see("put(" + c + ", " + r + ")", sheet.put(c, r), model.put(c, r));
            }
            see("clear()", sheet.clear(), model.clear());
        }

        private void writeText(String text) {
            for (int i = 0; i < text.length() && agrees; i++) {
                int b = text.charAt(i);
                see("type(" + b + ")", sheet.type(b), model.type(b));
            }
        }

        private void writeFormula() {
            int base = layered ? random.nextInt(6) : 6;
            rows = Math.max(1, base);
            String text = random.nextInt(6) == 0 ? spoiled(formula()) : formula();
            if (random.nextInt(12) > 0) {
                see("clear()", sheet.clear(), model.clear());
            }
            writeText(text);
            int times = 1 + random.nextInt(layered ? 6 : 3);
            for (int i = 0; i < times && agrees; i++) {
                int c = layered || random.nextInt(3) == 0 ? line() : random.nextInt(filled);
                int r = random.nextInt(3) == 0 ? line() : random.nextInt(filled);
                r = layered && random.nextInt(20) > 0 ? base : r;
                see("put(" + c + ", " + r + ")", sheet.put(c, r), model.put(c, r));
            }
        }

        private void change() {
            int w = length();
            int h = length();
            int c = start(w);
            int r = start(h);
            int p = start(w);
            int q = start(h);
            int way = random.nextInt(30) == 0 ? wild() : random.nextInt(2);
            String area = "(" + c + ", " + r + ", " + w + ", " + h + ", " + p + ", " + q + ")";
            String lines = "(" + way + ", " + c + ", " + w + ")";
            switch (random.nextInt(7)) {
                case 0:
                    see("empties(" + c + ", " + r + ")", sheet.empties(c, r), model.empties(c, r));
                    break;
                case 1:
                    see("comes" + lines, sheet.comes(way, c, w), model.comes(way, c, w));
                    break;
                case 2:
                    see("goes" + lines, sheet.goes(way, c, w), model.goes(way, c, w));
                    break;
                case 3:
                    see("moves" + area, sheet.moves(c, r, w, h, p, q), model.moves(c, r, w, h, p, q));
                    break;
                case 4:
                case 5:
                    see("copies" + area, sheet.copies(c, r, w, h, p, q), model.copies(c, r, w, h, p, q));
                    break;
                default:
                    see("back()", sheet.back(), model.back());
                    break;
            }
        }

        private void look() {
            int c = line();
            int r = line();
            int i = random.nextInt(10) == 0 ? wild() : random.nextInt(5);
            int what = random.nextInt(10) == 0 ? wild() : random.nextInt(6);
            int k = random.nextInt(10) == 0 ? wild() : random.nextInt(40);
            String cell = "(" + c + ", " + r;
            switch (random.nextInt(10)) {
                case 0:
                    see("terms" + cell + ")", sheet.terms(c, r), model.terms(c, r));
                    break;
                case 1:
                    see("term" + cell + ", " + i + ", " + what + ")",
                        sheet.term(c, r, i, what), model.term(c, r, i, what));
                    break;
                case 2:
                    see("shown" + cell + ", " + k + ")", sheet.shown(c, r, k), model.shown(c, r, k));
                    break;
                case 3:
                    see("value" + cell + ")", sheet.value(c, r), model.value(c, r));
                    break;
                case 4:
                    see("why" + cell + ")", sheet.why(c, r), model.why(c, r));
                    break;
                case 5:
                    see("deep" + cell + ")", sheet.deep(c, r), model.deep(c, r));
                    break;
                case 6:
                    see("users" + cell + ")", sheet.users(c, r), model.users(c, r));
                    break;
                case 7:
                    see("count(" + what + ")", sheet.count(what), model.count(what));
                    break;
                case 8:
                    see("told(" + what + ")", sheet.told(what), model.told(what));
                    break;
                default:
                    see("digest()", sheet.digest(), model.digest());
                    break;
            }
        }

        private void see(String call, long got, long want) {
            calls.add(call + " = " + got);
            if (got != want) {
                agrees = false;
                for (String earlier : calls) {
                    System.out.println(earlier);
                }
                System.out.println("run " + number + ": the last answer is not as due: " + want);
            }
        }

        private int line() {
            return random.nextInt(60) == 0 ? wild() : random.nextInt(6);
        }

        /** Mostly such that so many lines from it on lie within the sheet. */
        private int start(int length) {
            boolean loose = length < 1 || length > 6 || random.nextInt(20) == 0;
            return loose ? line() : random.nextInt(7 - length);
        }

        private int length() {
            int most = random.nextInt(4) == 0 ? 6 : 3;
            return random.nextInt(40) == 0 ? wild() : 1 + random.nextInt(most);
        }

        /** Mostly a number that no call takes, just outside or far out. */
        private int wild() {
            switch (random.nextInt(4)) {
                case 0:
                    return Integer.MAX_VALUE - random.nextInt(8);
                case 1:
                    return Integer.MIN_VALUE + random.nextInt(8);
                default:
                    return random.nextInt(12) - 3;
            }
        }

        private String formula() {
            int most = random.nextInt(8) == 0 ? 5 : 3;
            int size = 1 + random.nextInt(most);
            StringBuilder text = new StringBuilder();
            for (int i = 0; i < size; i++) {
                text.append(i == 0 ? "" : "+").append(someTerm());
            }
            return text.toString();
        }

        private String someTerm() {
            int kind = random.nextInt(20);
            if (kind < 6) {
                return "" + random.nextInt(kind == 0 ? 1100 : 1000);
            }
            if (kind < 7) {
                return layered && random.nextInt(4) > 0 ? "999" : "#";
            }
            return kind < 14 ? place() : place() + ":" + place();
        }

        private String place() {
            return dollar() + (char) ((random.nextInt(4) == 0 ? 'a' : 'A') + random.nextInt(6))
                + dollar() + (1 + random.nextInt(rows));
        }

        private String dollar() {
            return random.nextInt(3) == 0 ? "$" : "";
        }

        private String spoiled(String text) {
            String signs = "   $$++::##AFGfg067.";
            StringBuilder spoiled = new StringBuilder(text);
            int times = 1 + random.nextInt(3);
            for (int i = 0; i < times; i++) {
                char sign = signs.charAt(random.nextInt(signs.length()));
                spoiled.insert(random.nextInt(spoiled.length() + 1), sign);
            }
            if (random.nextInt(3) == 0) {
                spoiled.setLength(random.nextInt(spoiled.length() + 1));
            }
            return spoiled.toString();
        }
    }

    /** What ends the asking for a value. */
    private static final class Fault extends RuntimeException {
        private static final long serialVersionUID = 1;
        private final int kind;
        private final int at;
        private final int deep;

        Fault(int kind, int at, int deep) {
            super(null, null, false, false);
            this.kind = kind;
            this.at = at;
            this.deep = deep;
        }
    }

    /** A term taken apart: its texts of columns and rows; a place has one of each, a block two. */
    private static final class Parts {
        private final List<String> columns = new ArrayList<>();
        private final List<String> rows = new ArrayList<>();

        Parts(String term) {
            for (String place : term.split(":")) {
                Matcher m = Pattern.compile("(\\$?[A-F])(\\$?[1-6])").matcher(place);
                if (!m.matches()) {
                    throw new IllegalStateException(term);
                }
                columns.add(m.group(1));
                rows.add(m.group(2));
            }
        }

        List<String> along(int way) {
            return way == 0 ? rows : columns;
        }

        String together() {
            String term = columns.get(0) + rows.get(0);
            return columns.size() == 1 ? term : term + ":" + columns.get(1) + rows.get(1);
        }

        /** A stable sort by the letter or figure alone keeps like ones as they are. */
        void sort() {
            columns.sort((a, b) -> Integer.compare(number(a), number(b)));
            rows.sort((a, b) -> Integer.compare(number(a), number(b)));
        }

        TreeSet<Integer> cells() {
            TreeSet<Integer> cells = new TreeSet<>();
            for (int r = number(rows.get(0)); r <= number(rows.get(rows.size() - 1)); r++) {
                for (int c = number(columns.get(0)); c <= number(columns.get(columns.size() - 1)); c++) {
                    cells.add(10 * r + c);
                }
            }
            return cells;
        }

        static int number(String coordinate) {
            char last = coordinate.charAt(coordinate.length() - 1);
            return last >= 'A' ? last - 'A' : last - '1';
        }

        static boolean fixed(String coordinate) {
            return coordinate.startsWith("$");
        }

        static String other(String coordinate, int number) {
            char last = coordinate.charAt(coordinate.length() - 1);
            return coordinate.substring(0, coordinate.length() - 1)
                + (char) ((last >= 'A' ? 'A' : '1') + number);
        }
    }

    /** The second sheet. A cell is told by 10 times its row, and its column. */
    private static final class Model {
        private static final String PLACE = "\\$? *[A-Fa-f] *\\$? *[1-6] *";
        private static final String TERM =
            " *(?:[0-9]{1,3} *|# *|" + PLACE + "(?:: *" + PLACE + ")?)";
        private static final Pattern FORMULA = Pattern.compile(TERM + "(?:\\+" + TERM + "){0,3}");
        private static final Pattern PLUS_TOO_MANY =
            Pattern.compile(TERM + "(?:\\+" + TERM + "){3}\\+ *");

        private Map<Integer, String> cells = new HashMap<>();
        private final ArrayDeque<Map<Integer, String>> states = new ArrayDeque<>();
        private final int[] refusals = new int[3];
        private String text = "";

        int type(int b) {
            if (b < 0 || b > 127) {
                return refuse(0);
            }
            if (text.length() == 60) {
                return refuse(2);
            }
            text += (char) b;
            return text.length();
        }

        int clear() {
            int had = text.length();
            text = "";
            return had;
        }

        int put(int c, int r) {
            if (outside(c, r)) {
                return refuse(0);
            }
            if (!FORMULA.matcher(text).matches()) {
                return -10 - fault();
            }
            String bare = text.replace(" ", "").toUpperCase();
            List<String> terms = new ArrayList<>();
            for (String term : bare.split("\\+")) {
                terms.add(asWritten(term));
            }
            save();
            cells.put(10 * r + c, String.join("+", terms));
            return terms.size();
        }

        private int fault() {
            for (int i = 0; i < text.length(); i++) {
                String start = text.substring(0, i + 1);
                if (!canGoOn(FORMULA, start) && !canGoOn(PLUS_TOO_MANY, start)) {
                    return i;
                }
            }
            return text.length();
        }

        private static boolean canGoOn(Pattern pattern, String start) {
            Matcher m = pattern.matcher(start);
            return m.matches() || m.hitEnd();
        }

        private static String asWritten(String term) {
            if (isNumber(term)) {
                return "" + Integer.parseInt(term);
            }
            if (term.equals("#")) {
                return term;
            }
            Parts parts = new Parts(term);
            parts.sort();
            return parts.columns.size() == 1 ? term : parts.together();
        }

        int empties(int c, int r) {
            if (outside(c, r)) {
                return refuse(0);
            }
            int had = termsOf(10 * r + c).size();
            save();
            cells.remove(10 * r + c);
            return had;
        }

        int comes(int way, int a, int n) {
            if (way < 0 || way > 1 || a < 0 || a > 5 || n < 1 || n > 6) {
                return refuse(0);
            }
            for (int cell : cells.keySet()) {
                if (line(cell, way) >= a && line(cell, way) + n > 5) {
                    return refuse(1);
                }
            }
            save();
            Map<Integer, String> then = new HashMap<>();
            for (Map.Entry<Integer, String> e : cells.entrySet()) {
                int by = line(e.getKey(), way) >= a ? n * (way == 0 ? 10 : 1) : 0;
                then.put(e.getKey() + by, e.getValue());
            }
            cells = then;
            eachTerm(term -> termAfterComing(term, way, a, n));
            return cells.size();
        }

        private static String termAfterComing(String term, int way, int a, int n) {
            Parts parts = new Parts(term);
            List<String> along = parts.along(way);
            for (int i = 0; i < along.size(); i++) {
                int x = Parts.number(along.get(i));
                int then = x >= a ? x + n : x;
                if (then > 5 && i == 0) {
                    return "#";
                }
                along.set(i, Parts.other(along.get(i), Math.min(then, 5)));
            }
            return parts.together();
        }

        int goes(int way, int a, int n) {
            if (way < 0 || way > 1 || a < 0 || a > 5 || n < 1 || n > 6 || a + n > 6) {
                return refuse(0);
            }
            save();
            Map<Integer, String> then = new HashMap<>();
            for (Map.Entry<Integer, String> e : cells.entrySet()) {
                int line = line(e.getKey(), way);
                if (line < a) {
                    then.put(e.getKey(), e.getValue());
                } else if (line >= a + n) {
                    then.put(e.getKey() - n * (way == 0 ? 10 : 1), e.getValue());
                }
            }
            cells = then;
            eachTerm(term -> termAfterGoing(term, way, a, n));
            return cells.size();
        }

        /** What is left of the lines that a term spans tells where it lies then. */
        private static String termAfterGoing(String term, int way, int a, int n) {
            Parts parts = new Parts(term);
            List<String> along = parts.along(way);
            TreeSet<Integer> left = new TreeSet<>();
            int last = along.size() - 1;
            for (int x = Parts.number(along.get(0)); x <= Parts.number(along.get(last)); x++) {
                if (x < a) {
                    left.add(x);
                } else if (x >= a + n) {
                    left.add(x - n);
                }
            }
            if (left.isEmpty()) {
                return "#";
            }
            along.set(0, Parts.other(along.get(0), left.first()));
            along.set(last, Parts.other(along.get(last), left.last()));
            return parts.together();
        }

        int moves(int c, int r, int w, int h, int p, int q) {
            if (noArea(c, r, w, h) || noArea(p, q, w, h)) {
                return refuse(0);
            }
            save();
            TreeSet<Integer> source = area(c, r, w, h);
            TreeSet<Integer> target = area(p, q, w, h);
            int by = 10 * (q - r) + p - c;
            Map<Integer, String> then = new HashMap<>(cells);
            then.keySet().removeAll(source);
            then.keySet().removeAll(target);
            for (int cell : source) {
                if (cells.containsKey(cell)) {
                    then.put(cell + by, cells.get(cell));
                }
            }
            cells = then;
            int before = count(2);
            eachTerm(term -> {
                Parts parts = new Parts(term);
                if (source.containsAll(parts.cells())) {
                    parts.columns.replaceAll(x -> Parts.other(x, Parts.number(x) + p - c));
                    parts.rows.replaceAll(x -> Parts.other(x, Parts.number(x) + q - r));
                    return parts.together();
                }
                return target.containsAll(parts.cells()) ? "#" : term;
            });
            return count(2) - before;
        }

        int copies(int c, int r, int w, int h, int p, int q) {
            if (noArea(c, r, w, h) || noArea(p, q, w, h)) {
                return refuse(0);
            }
            save();
            int broken = 0;
            Map<Integer, String> then = new HashMap<>(cells);
            for (int cell : area(c, r, w, h)) {
                int to = cell + 10 * (q - r) + p - c;
                then.remove(to);
                List<String> terms = new ArrayList<>();
                for (String term : termsOf(cell)) {
                    terms.add(copied(term, p - c, q - r));
                    broken += terms.get(terms.size() - 1).equals("#") ? 1 : 0;
                }
                if (!terms.isEmpty()) {
                    then.put(to, String.join("+", terms));
                }
            }
            cells = then;
            return broken;
        }

        private static String copied(String term, int columns, int rows) {
            if (isNumber(term) || term.equals("#")) {
                return term;
            }
            Parts parts = new Parts(term);
            for (int way = 0; way <= 1; way++) {
                List<String> along = parts.along(way);
                for (int i = 0; i < along.size(); i++) {
                    int by = Parts.fixed(along.get(i)) ? 0 : way == 0 ? rows : columns;
                    int x = Parts.number(along.get(i)) + by;
                    if (x < 0 || x > 5) {
                        return "#";
                    }
                    along.set(i, Parts.other(along.get(i), x));
                }
            }
            parts.sort();
            return parts.together();
        }

        int back() {
            if (states.isEmpty()) {
                return refuse(1);
            }
            cells = states.removeLast();
            return states.size();
        }

        int terms(int c, int r) {
            return outside(c, r) ? refuse(0) : termsOf(10 * r + c).size();
        }

        int term(int c, int r, int i, int what) {
            if (outside(c, r) || i < 0 || i >= termsOf(10 * r + c).size() || what < 0 || what > 5) {
                return refuse(0);
            }
            return told(termsOf(10 * r + c).get(i))[what];
        }

        private static int[] told(String term) {
            if (isNumber(term)) {
                return new int[] {0, Integer.parseInt(term), 0, 0, 0, 0};
            }
            if (term.equals("#")) {
                return new int[] {3, 0, 0, 0, 0, 0};
            }
            Parts parts = new Parts(term);
            int[] told = new int[6];
            told[0] = parts.columns.size();
            for (int i = 0; i < parts.columns.size(); i++) {
                told[1 + 2 * i] = Parts.number(parts.columns.get(i));
                told[2 + 2 * i] = Parts.number(parts.rows.get(i));
                told[5] += Parts.fixed(parts.columns.get(i)) ? 1 << 2 * i : 0;
                told[5] += Parts.fixed(parts.rows.get(i)) ? 2 << 2 * i : 0;
            }
            return told;
        }

        int shown(int c, int r, int k) {
            if (outside(c, r) || k < 0) {
                return refuse(0);
            }
            String written = cells.getOrDefault(10 * r + c, "");
            return k < written.length() ? written.charAt(k) : -1;
        }

        int value(int c, int r) {
            if (outside(c, r)) {
                return refuse(0);
            }
            Fault fault = faultOf(10 * r + c);
            return fault != null ? -10 - fault.kind : ask(10 * r + c, new ArrayList<>(), new HashMap<>());
        }

        int why(int c, int r) {
            if (outside(c, r)) {
                return refuse(0);
            }
            Fault fault = faultOf(10 * r + c);
            return fault == null ? -1 : fault.at % 10 * 10 + fault.at / 10;
        }

        int deep(int c, int r) {
            if (outside(c, r)) {
                return refuse(0);
            }
            Fault fault = faultOf(10 * r + c);
            return fault == null ? -1 : fault.deep;
        }

        private Fault faultOf(int cell) {
            try {
                ask(cell, new ArrayList<>(), new HashMap<>());
                return null;
            } catch (Fault fault) {
                return fault;
            }
        }

        private int ask(int cell, List<Integer> path, Map<Integer, Integer> known) {
            if (path.contains(cell)) {
                throw new Fault(2, cell, path.size() - 1);
            }
            if (known.containsKey(cell)) {
                return known.get(cell);
            }
            int deep = path.size();
            path.add(cell);
            int sum = 0;
            for (String term : termsOf(cell)) {
                if (term.equals("#")) {
                    throw new Fault(1, cell, deep);
                }
                List<Integer> asked = isNumber(term) ? Arrays.asList(-1) : new ArrayList<>(new Parts(term).cells());
                for (int next : asked) {
                    sum += next < 0 ? Integer.parseInt(term) : ask(next, path, known);
                    if (sum > 99999) {
                        throw new Fault(3, cell, deep);
                    }
                }
            }
            path.remove(deep);
            known.put(cell, sum);
            return sum;
        }

        int users(int c, int r) {
            if (outside(c, r)) {
                return refuse(0);
            }
            int users = 0;
            for (int cell : cells.keySet()) {
                for (String term : termsOf(cell)) {
                    boolean refers = !isNumber(term) && !term.equals("#");
                    users += refers && new Parts(term).cells().contains(10 * r + c) ? 1 : 0;
                }
            }
            return users;
        }

        int count(int what) {
            if (what < 0 || what > 3) {
                return refuse(0);
            }
            int[] counts = new int[4];
            for (int cell : cells.keySet()) {
                counts[0]++;
                counts[1] += termsOf(cell).size();
                counts[2] += (int) termsOf(cell).stream().filter(t -> t.equals("#")).count();
                counts[3] += what == 3 && faultOf(cell) != null ? 1 : 0;
            }
            return counts[what];
        }

        int told(int what) {
            if (what < 0 || what > 4) {
                return refuse(0);
            }
            return what < 3 ? refusals[what] : what == 3 ? text.length() : states.size();
        }

        long digest() {
            List<Integer> all = new ArrayList<>();
            for (int what = 0; what <= 4; what++) {
                all.add(told(what));
            }
            for (int what = 0; what <= 3; what++) {
                all.add(count(what));
            }
            for (int r = 0; r < 6; r++) {
                for (int c = 0; c < 6; c++) {
                    all.add(terms(c, r));
                    for (String term : termsOf(10 * r + c)) {
                        Arrays.stream(told(term)).forEach(all::add);
                    }
                    all.add(value(c, r));
                    all.add(why(c, r));
                }
            }
            long h = 1626;
            for (int v : all) {
                h = 31 * h + v;
            }
            return h;
        }

        private interface Change {
            String of(String term);
        }

        private void eachTerm(Change change) {
            for (Map.Entry<Integer, String> e : cells.entrySet()) {
                List<String> terms = termsOf(e.getKey());
                terms.replaceAll(t -> isNumber(t) || t.equals("#") ? t : change.of(t));
                e.setValue(String.join("+", terms));
            }
        }

        private List<String> termsOf(int cell) {
            String written = cells.get(cell);
            return written == null ? new ArrayList<>() : new ArrayList<>(Arrays.asList(written.split("\\+")));
        }

        private void save() {
            states.addLast(new HashMap<>(cells));
            if (states.size() > 6) {
                states.removeFirst();
            }
        }

        private int refuse(int which) {
            refusals[which]++;
            return -2 - which;
        }

        private static boolean isNumber(String term) {
            return Character.isDigit(term.charAt(0));
        }

        private static int line(int cell, int way) {
            return way == 0 ? cell / 10 : cell % 10;
        }

        private static boolean outside(int c, int r) {
            return c < 0 || c > 5 || r < 0 || r > 5;
        }

        private static boolean noArea(int c, int r, int w, int h) {
            return outside(c, r) || w < 1 || h < 1 || w > 6 || h > 6 || outside(c + w - 1, r + h - 1);
        }

        private static TreeSet<Integer> area(int c, int r, int w, int h) {
            TreeSet<Integer> area = new TreeSet<>();
            for (int i = 0; i < w * h; i++) {
                area.add(10 * (r + i / w) + c + i % w);
            }
            return area;
        }
    }
}

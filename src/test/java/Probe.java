/**
 * A sheet under test. Its calls are counted: what an object answers behind its 512th call is free,
 * so a test that goes further asks for what nobody promised.
 */
final class Probe {
    private static final int MOST_CALLS = 512;

    private final SheetRefs sheet = new SheetRefs();
    private int calls;

    private SheetRefs called() {
        calls++;
        if (calls > MOST_CALLS) {
            throw new IllegalStateException("the test calls one object more than 512 times");
        }
        return sheet;
    }

    int type(int c) {
        return called().type(c);
    }

    int clear() {
        return called().clear();
    }

    int put(int c, int r) {
        return called().put(c, r);
    }

    int empties(int c, int r) {
        return called().empties(c, r);
    }

    int comes(int way, int a, int n) {
        return called().comes(way, a, n);
    }

    int goes(int way, int a, int n) {
        return called().goes(way, a, n);
    }

    int moves(int c, int r, int w, int h, int p, int q) {
        return called().moves(c, r, w, h, p, q);
    }

    int copies(int c, int r, int w, int h, int p, int q) {
        return called().copies(c, r, w, h, p, q);
    }

    int back() {
        return called().back();
    }

    int terms(int c, int r) {
        return called().terms(c, r);
    }

    int term(int c, int r, int i, int what) {
        return called().term(c, r, i, what);
    }

    int shown(int c, int r, int k) {
        return called().shown(c, r, k);
    }

    int value(int c, int r) {
        return called().value(c, r);
    }

    int why(int c, int r) {
        return called().why(c, r);
    }

    int deep(int c, int r) {
        return called().deep(c, r);
    }

    int users(int c, int r) {
        return called().users(c, r);
    }

    int count(int what) {
        return called().count(what);
    }

    int told(int what) {
        return called().told(what);
    }

    long digest() {
        return called().digest();
    }

    // ---- what several tests need

    void types(String text) {
        for (int i = 0; i < text.length(); i++) {
            type(text.charAt(i));
        }
    }

    /** The text anew, and put into the cell: what put() answers. */
    int write(int c, int r, String text) {
        clear();
        types(text);
        return put(c, r);
    }

    /** A new sheet with one formula. */
    static Probe with(int c, int r, String text) {
        Probe x = new Probe();
        x.types(text);
        if (x.put(c, r) < 1) {
            throw new IllegalStateException("the test's own formula has a fault: " + text);
        }
        return x;
    }

    /** The cell as written. */
    String written(int c, int r) {
        StringBuilder written = new StringBuilder();
        int letter = shown(c, r, 0);
        while (letter >= 0 && written.length() < 100) {
            written.append((char) letter);
            letter = shown(c, r, written.length());
        }
        return written.toString();
    }

    /** The digest less what is told and counted ahead of the cells: a number of all cells alone. */
    long cellsDigest() {
        long h = 1626;
        for (int what = 0; what <= 4; what++) {
            h = 31 * h + told(what);
        }
        for (int what = 0; what <= 3; what++) {
            h = 31 * h + count(what);
        }
        return digest() - h * power31(cellsNumbers());
    }

    /** What a digest is when told(what) alone is one more. */
    long digestOneMore(int what) {
        return digest() + power31(cellsNumbers() + 8 - what);
    }

    /** How many numbers of the digest are of cells: three of each, six of each term. */
    private int cellsNumbers() {
        return 3 * 36 + 6 * count(1);
    }

    private static long power31(int times) {
        long power = 1;
        for (int i = 0; i < times; i++) {
            power *= 31;
        }
        return power;
    }
}

/** Promises 6 to 14: what is asked of the SETS. */
public final class AskedTest {
    private static final Due DUE = new Due("AskedTest");
    private static final int[] NO_SETS = {-1, 8, Integer.MIN_VALUE, Integer.MAX_VALUE};
    private static final int[] NO_BORDERS = {-1, 4097, Integer.MIN_VALUE, Integer.MAX_VALUE};

    public static void main(String[] args) {
        promise6();
        promise7();
        promise8();
        promise9();
        promise10();
        promise11();
        promise12();
        promise13();
        edgesOfForms();
        piecesOutside();
        promise14();
        DUE.end();
    }

    /** SET 5 has 3, 31, 32, 255, 256 and 4095. */
    private static KeyRows sample() {
        KeyRows x = new KeyRows();
        for (int v : new int[] {3, 31, 32, 255, 256, 4095}) {
            x.put(5, v);
        }
        return x;
    }

    private static void promise6() {
        KeyRows x = sample();
        int[] in = {3, 31, 32, 255, 256, 4095};
        int[] out = {0, 2, 4, 30, 33, 254, 257, 4094};
        for (int v : in) {
            DUE.is("has " + v, x.has(5, v), 1);
        }
        for (int v : out) {
            DUE.is("has " + v, x.has(5, v), 0);
        }
        DUE.is("has(4, 3)", x.has(4, 3), 0);
        for (int set : NO_SETS) {
            DUE.is("has(" + set + ", 3)", x.has(set, 3), KeyRows.UNKNOWN);
            DUE.is("has(" + set + ", 4096)", x.has(set, 4096), KeyRows.UNKNOWN);
        }
        for (int v : new int[] {-1, 4096, Integer.MIN_VALUE, Integer.MAX_VALUE}) {
            DUE.is("has(5, " + v + ")", x.has(5, v), KeyRows.OUTSIDE);
        }
    }

    private static void promise7() {
        KeyRows x = sample();
        DUE.is("count(5)", x.count(5), 6);
        DUE.is("count(0)", x.count(0), 0);
        x.fill(0, 0, 4095);
        DUE.is("count of all", x.count(0), 4096);
        for (int set : NO_SETS) {
            DUE.is("count(" + set + ")", x.count(set), KeyRows.UNKNOWN);
        }
    }

    private static void promise8() {
        KeyRows x = sample();
        int[][] rows = {{0, 0}, {3, 0}, {4, 1}, {31, 1}, {32, 2}, {33, 3}, {255, 3}, {256, 4}, {257, 5},
            {4095, 5}, {4096, 6}};
        for (int[] row : rows) {
            DUE.is("rank(5, " + row[0] + ")", x.rank(5, row[0]), row[1]);
        }
        for (int set : NO_SETS) {
            DUE.is("rank(" + set + ", -1)", x.rank(set, -1), KeyRows.UNKNOWN);
        }
        for (int v : NO_BORDERS) {
            DUE.is("rank(5, " + v + ")", x.rank(5, v), KeyRows.OUTSIDE);
        }
    }

    private static void promise9() {
        KeyRows x = sample();
        int[] in = {3, 31, 32, 255, 256, 4095};
        for (int k = 0; k < in.length; k++) {
            DUE.is("select(5, " + k + ")", x.select(5, k), in[k]);
        }
        for (int k : new int[] {-1, 6, 4096, Integer.MIN_VALUE, Integer.MAX_VALUE}) {
            DUE.is("select(5, " + k + ")", x.select(5, k), KeyRows.NONE);
        }
        DUE.is("select(0, 0)", x.select(0, 0), KeyRows.NONE);
        x.fill(0, 0, 4095);
        for (int k : new int[] {0, 30, 31, 32, 33, 4095}) {
            DUE.is("select of all, " + k, x.select(0, k), k);
        }
        DUE.is("select of all, 4096", x.select(0, 4096), KeyRows.NONE);
        for (int set : NO_SETS) {
            DUE.is("select(" + set + ", -1)", x.select(set, -1), KeyRows.UNKNOWN);
        }
    }

    private static void promise10() {
        KeyRows x = sample();
        int[][] rows = {{0, 3}, {3, 3}, {4, 31}, {31, 31}, {32, 32}, {33, 255}, {256, 256}, {257, 4095},
            {4095, 4095}, {4096, -1}};
        for (int[] row : rows) {
            DUE.is("next(5, " + row[0] + ")", x.next(5, row[0]), row[1]);
        }
        x.drop(5, 4095, 4095);
        DUE.is("next(5, 257), 4095 gone", x.next(5, 257), KeyRows.NONE);
        for (int set : NO_SETS) {
            DUE.is("next(" + set + ", -1)", x.next(set, -1), KeyRows.UNKNOWN);
        }
        for (int v : NO_BORDERS) {
            DUE.is("next(5, " + v + ")", x.next(5, v), KeyRows.OUTSIDE);
        }
    }

    private static void promise11() {
        KeyRows x = sample();
        int[][] rows = {{0, -1}, {3, -1}, {4, 3}, {31, 3}, {32, 31}, {33, 32}, {255, 32}, {256, 255}, {257, 256},
            {4095, 256}, {4096, 4095}};
        for (int[] row : rows) {
            DUE.is("before(5, " + row[0] + ")", x.before(5, row[0]), row[1]);
        }
        DUE.is("before(0, 4096)", x.before(0, 4096), KeyRows.NONE);
        for (int set : NO_SETS) {
            DUE.is("before(" + set + ", -1)", x.before(set, -1), KeyRows.UNKNOWN);
        }
        for (int v : NO_BORDERS) {
            DUE.is("before(5, " + v + ")", x.before(5, v), KeyRows.OUTSIDE);
        }
    }

    private static void promise12() {
        KeyRows x = sample();
        x.fill(0, 31, 255);
        DUE.is("common(5, 0)", x.common(5, 0), 3);
        DUE.is("common(0, 5)", x.common(0, 5), 3);
        DUE.is("common(5, 5)", x.common(5, 5), 6);
        DUE.is("common(5, 1)", x.common(5, 1), 0);
        for (int set : NO_SETS) {
            DUE.is("common(" + set + ", 0)", x.common(set, 0), KeyRows.UNKNOWN);
            DUE.is("common(0, " + set + ")", x.common(0, set), KeyRows.UNKNOWN);
        }
    }

    private static void piece(KeyRows x, int h, int form, int amount, int runs, int bits) {
        DUE.is("FORM of PIECE " + h, x.piece(5, h, 0), form);
        DUE.is("NUMBERS of PIECE " + h, x.piece(5, h, 1), amount);
        DUE.is("RUNS of PIECE " + h, x.piece(5, h, 2), runs);
        DUE.is("bits of PIECE " + h, x.piece(5, h, 3), bits);
    }

    private static void promise13() {
        KeyRows x = sample();
        piece(x, 0, 0, 4, 3, 32);
        piece(x, 1, 0, 1, 1, 8);
        piece(x, 2, -1, 0, 0, 0);
        piece(x, 15, 0, 1, 1, 8);
        x.fill(5, 0, 4095);
        for (int h = 0; h < 16; h++) {
            piece(x, h, 2, 256, 1, 16);
        }
        x.drop(5, 256, 256);
        piece(x, 0, 2, 256, 1, 16);
        piece(x, 1, 2, 255, 1, 16);
    }

    private static void every(KeyRows x, int h, int step, int runs, int width) {
        x.drop(5, 256 * h, 256 * h + 255);
        for (int r = 0; r < runs; r++) {
            x.fill(5, 256 * h + r * step, 256 * h + r * step + width - 1);
        }
    }

    private static void edgesOfForms() {
        KeyRows x = new KeyRows();
        every(x, 4, 7, 1, 2);
        piece(x, 4, 0, 2, 1, 16);
        every(x, 4, 7, 1, 3);
        piece(x, 4, 2, 3, 1, 16);
        every(x, 4, 8, 16, 2);
        piece(x, 4, 0, 32, 16, 256);
        every(x, 4, 8, 32, 1);
        piece(x, 4, 0, 32, 32, 256);
        every(x, 4, 7, 33, 1);
        piece(x, 4, 1, 33, 33, 256);
        every(x, 4, 8, 16, 3);
        piece(x, 4, 1, 48, 16, 256);
        every(x, 4, 8, 15, 2);
        piece(x, 4, 0, 30, 15, 240);
        every(x, 4, 8, 15, 3);
        piece(x, 4, 2, 45, 15, 240);
        every(x, 4, 2, 128, 1);
        piece(x, 4, 1, 128, 128, 256);
        x.fill(5, 1024 + 31, 1024 + 33);
        piece(x, 4, 1, 130, 126, 256);
    }

    private static void piecesOutside() {
        KeyRows x = sample();
        for (int set : NO_SETS) {
            DUE.is("piece(" + set + ", -1, -1)", x.piece(set, -1, -1), KeyRows.UNKNOWN);
        }
        for (int h : new int[] {-1, 16, Integer.MIN_VALUE, Integer.MAX_VALUE}) {
            DUE.is("piece(5, " + h + ", 0)", x.piece(5, h, 0), KeyRows.OUTSIDE);
        }
        for (int what : new int[] {-1, 4, Integer.MIN_VALUE, Integer.MAX_VALUE}) {
            DUE.is("piece(5, 0, " + what + ")", x.piece(5, 0, what), KeyRows.OUTSIDE);
        }
    }

    private static void promise14() {
        KeyRows x = sample();
        DUE.is("cost(5)", x.cost(5), 16 + 32 + 16 + 8 + 16 + 8);
        DUE.is("cost(0)", x.cost(0), 0);
        x.fill(0, 0, 4095);
        DUE.is("cost of all", x.cost(0), 16 * 32);
        for (int v = 0; v < 66; v += 2) {
            x.put(1, 512 + v);
        }
        DUE.is("cost of BITS", x.cost(1), 16 + 256);
        for (int set : NO_SETS) {
            DUE.is("cost(" + set + ")", x.cost(set), KeyRows.UNKNOWN);
        }
    }
}

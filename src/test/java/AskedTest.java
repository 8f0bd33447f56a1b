import java.util.function.IntFunction;
import java.util.function.ToIntFunction;

/** Promises 6 to 14: what is asked of the SETS. */
public final class AskedTest {
    private static final Due DUE = new Due("AskedTest");
    private static final int[] NO_PLACES =
        {-1, -2, -4096, 4096, 4097, 1 << 16, 1 << 30, Integer.MIN_VALUE, Integer.MIN_VALUE + 1, Integer.MAX_VALUE};

    public static void main(String[] args) {
        promise6();
        promise7();
        promise8();
        promise9();
        promise10();
        promise11();
        promise12();
        promise13();
        promise14();
        DUE.end();
    }

    /** A call with each number from 0 on, on objects that are asked no more often than an object may be. */
    private static void each(String call, int last, int set, Answer got, IntFunction<Integer> want) {
        for (int from = 0; from <= last; from += 400) {
            KeyRows x = Sample.make();
            for (int v = from; v < from + 400 && v <= last; v++) {
                DUE.is(call + "(" + set + ", " + v + ")", got.of(x, set, v), want.apply(v));
            }
        }
    }

    private interface Answer {
        int of(KeyRows x, int set, int v);
    }

    private static void rows(String call, int set, Answer got, int[][] rows) {
        for (int[] row : rows) {
            DUE.is(call + "(" + set + ", " + row[0] + ")", got.of(Sample.make(), set, row[0]), row[1]);
        }
    }

    /** What only asks must leave all as it is, on every SET. */
    private static void onlyAsks(String call, ToIntFunction<KeyRows> made) {
        KeyRows x = Sample.make();
        made.applyAsInt(x);
        DUE.same("what is there behind " + call, Sample.state(x), Sample.STATE);
    }

    private static void promise6() {
        DUE.test("6: each NUMBER of all: 1; of none: 0", () -> {
            each("has", 4095, 6, KeyRows::has, v -> 1);
            each("has", 4095, 0, KeyRows::has, v -> 0);
        });
        DUE.test("6: the first NUMBER alone, and the last one alone", () -> {
            each("has", 4095, 1, KeyRows::has, v -> v == 0 ? 1 : 0);
            each("has", 4095, 2, KeyRows::has, v -> v == 4095 ? 1 : 0);
        });
        DUE.test("6: NUMBERS at the edges, and those beside them", () -> rows("has", 3, KeyRows::has,
            new int[][] {{2, 0}, {3, 1}, {4, 0}, {30, 0}, {31, 1}, {32, 1}, {33, 0}, {254, 0}, {255, 1}, {256, 1},
                {257, 0}, {4094, 0}, {4095, 1}}));
        DUE.test("6: asking changes nothing", () -> onlyAsks("has", x -> x.has(3, 3) + x.has(3, 4)));
        DUE.test("6: OUTSIDE: no NUMBER", () -> {
            DUE.stays("has(6, #)", Sample.NO_NUMBERS, v -> x -> x.has(6, v), KeyRows.OUTSIDE);
            DUE.stays("has(0, #)", Sample.NO_NUMBERS, v -> x -> x.has(0, v), KeyRows.OUTSIDE);
        });
        DUE.test("6: UNKNOWN: no SET", () ->
            DUE.stays("has(#, 0)", Sample.NO_SETS, s -> x -> x.has(s, 0), KeyRows.UNKNOWN));
        DUE.test("6: UNKNOWN ahead of OUTSIDE", () -> {
            DUE.stays("has(#, -1)", Sample.NO_SETS, s -> x -> x.has(s, -1), KeyRows.UNKNOWN);
            DUE.stays("has(#, 4096)", Sample.NO_SETS, s -> x -> x.has(s, 4096), KeyRows.UNKNOWN);
        });
    }

    private static void promise7() {
        DUE.test("7: none, one, some, all", () -> {
            int[] amounts = {0, 1, 1, 6, 3, 3, 4096, 1};
            for (int set = 0; set < 8; set++) {
                DUE.is("count(" + set + ")", Sample.make().count(set), amounts[set]);
            }
        });
        DUE.test("7: each amount from 0 to 4096", AskedTest::countEach);
        DUE.test("7: asking changes nothing", () -> onlyAsks("count", x -> x.count(3) + x.count(6)));
        DUE.test("7: UNKNOWN: no SET", () ->
            DUE.stays("count(#)", Sample.NO_SETS, s -> x -> x.count(s), KeyRows.UNKNOWN));
    }

    private static void countEach() {
        for (int from = 0; from < 4096; from += 128) {
            KeyRows x = new KeyRows();
            x.fill(7, 4096 - from - 1, 4095);
            x.drop(7, 4096 - from - 1, 4096 - from - 1);
            DUE.is("count(7)", x.count(7), from);
            for (int n = from + 1; n <= from + 128; n++) {
                x.put(7, 4096 - n);
                DUE.is("count(7)", x.count(7), n);
            }
        }
    }

    private static void promise8() {
        DUE.test("8: none is less than 0, all are less than 4096", () -> {
            rows("rank", 6, KeyRows::rank, new int[][] {{0, 0}, {4096, 4096}});
            rows("rank", 1, KeyRows::rank, new int[][] {{0, 0}, {1, 1}, {4096, 1}});
            rows("rank", 2, KeyRows::rank, new int[][] {{0, 0}, {4095, 0}, {4096, 1}});
        });
        DUE.test("8: each v of all NUMBERS, and of none", () -> {
            each("rank", 4096, 6, KeyRows::rank, v -> v);
            each("rank", 4096, 0, KeyRows::rank, v -> 0);
        });
        DUE.test("8: less than v: v itself does not count", () -> rows("rank", 3, KeyRows::rank,
            new int[][] {{3, 0}, {4, 1}, {31, 1}, {32, 2}, {33, 3}, {255, 3}, {256, 4}, {257, 5}, {4095, 5},
                {4096, 6}}));
        DUE.test("8: asking changes nothing", () -> onlyAsks("rank", x -> x.rank(3, 4096) + x.rank(6, 0)));
        DUE.test("8: OUTSIDE: v below 0 or above 4096", () -> {
            DUE.stays("rank(6, #)", Sample.NO_BORDERS, v -> x -> x.rank(6, v), KeyRows.OUTSIDE);
            DUE.stays("rank(0, #)", Sample.NO_BORDERS, v -> x -> x.rank(0, v), KeyRows.OUTSIDE);
        });
        DUE.test("8: UNKNOWN: no SET", () -> {
            DUE.stays("rank(#, 0)", Sample.NO_SETS, s -> x -> x.rank(s, 0), KeyRows.UNKNOWN);
            DUE.stays("rank(#, 4096)", Sample.NO_SETS, s -> x -> x.rank(s, 4096), KeyRows.UNKNOWN);
        });
        DUE.test("8: UNKNOWN ahead of OUTSIDE", () -> {
            DUE.stays("rank(#, -1)", Sample.NO_SETS, s -> x -> x.rank(s, -1), KeyRows.UNKNOWN);
            DUE.stays("rank(#, 4097)", Sample.NO_SETS, s -> x -> x.rank(s, 4097), KeyRows.UNKNOWN);
        });
    }

    private static void promise9() {
        DUE.test("9: from 0 on, the lesser ones first, up to the last one", () -> rows("select", 3, KeyRows::select,
            new int[][] {{0, 3}, {1, 31}, {2, 32}, {3, 255}, {4, 256}, {5, 4095}}));
        DUE.test("9: NONE: as many as there are, or more", () -> {
            rows("select", 3, KeyRows::select, new int[][] {{6, -1}, {7, -1}, {4095, -1}});
            rows("select", 1, KeyRows::select, new int[][] {{0, 0}, {1, -1}});
            rows("select", 2, KeyRows::select, new int[][] {{0, 4095}, {1, -1}});
        });
        DUE.test("9: each k of all NUMBERS, and of none", () -> {
            each("select", 4096, 6, KeyRows::select, k -> k < 4096 ? k : KeyRows.NONE);
            each("select", 4096, 0, KeyRows::select, k -> KeyRows.NONE);
        });
        DUE.test("9: NONE: k below 0, or far above, and nothing changes", () -> {
            for (int set : new int[] {0, 3, 6}) {
                DUE.stays("select(s, #)", NO_PLACES, k -> x -> x.select(set, k), KeyRows.NONE);
            }
        });
        DUE.test("9: asking changes nothing", () -> onlyAsks("select", x -> x.select(3, 5) + x.select(6, 4095)));
        DUE.test("9: UNKNOWN: no SET", () ->
            DUE.stays("select(#, 0)", Sample.NO_SETS, s -> x -> x.select(s, 0), KeyRows.UNKNOWN));
        DUE.test("9: UNKNOWN ahead of NONE", () -> {
            DUE.stays("select(#, -1)", Sample.NO_SETS, s -> x -> x.select(s, -1), KeyRows.UNKNOWN);
            DUE.stays("select(#, 4096)", Sample.NO_SETS, s -> x -> x.select(s, 4096), KeyRows.UNKNOWN);
        });
    }

    private static void promise10() {
        DUE.test("10: not less than v: v itself fits", () -> rows("next", 3, KeyRows::next,
            new int[][] {{0, 3}, {3, 3}, {4, 31}, {31, 31}, {32, 32}, {33, 255}, {255, 255}, {256, 256},
                {257, 4095}, {4094, 4095}, {4095, 4095}}));
        DUE.test("10: NONE: v is 4096, or above the greatest NUMBER", () -> {
            rows("next", 3, KeyRows::next, new int[][] {{4096, -1}});
            rows("next", 6, KeyRows::next, new int[][] {{4096, -1}});
            rows("next", 1, KeyRows::next, new int[][] {{0, 0}, {1, -1}, {31, -1}, {32, -1}, {4095, -1}, {4096, -1}});
            rows("next", 4, KeyRows::next, new int[][] {{0, 10}, {12, 12}, {13, -1}});
        });
        DUE.test("10: each v of all NUMBERS, of none, of the last one", () -> {
            each("next", 4096, 6, KeyRows::next, v -> v < 4096 ? v : KeyRows.NONE);
            each("next", 4096, 0, KeyRows::next, v -> KeyRows.NONE);
            each("next", 4096, 2, KeyRows::next, v -> v < 4096 ? 4095 : KeyRows.NONE);
        });
        DUE.test("10: asking changes nothing", () -> onlyAsks("next", x -> x.next(3, 4) + x.next(6, 4096)));
        DUE.test("10: OUTSIDE: v below 0 or above 4096", () -> {
            DUE.stays("next(6, #)", Sample.NO_BORDERS, v -> x -> x.next(6, v), KeyRows.OUTSIDE);
            DUE.stays("next(0, #)", Sample.NO_BORDERS, v -> x -> x.next(0, v), KeyRows.OUTSIDE);
        });
        DUE.test("10: UNKNOWN: no SET", () -> {
            DUE.stays("next(#, 0)", Sample.NO_SETS, s -> x -> x.next(s, 0), KeyRows.UNKNOWN);
            DUE.stays("next(#, 4096)", Sample.NO_SETS, s -> x -> x.next(s, 4096), KeyRows.UNKNOWN);
        });
        DUE.test("10: UNKNOWN ahead of OUTSIDE", () -> {
            DUE.stays("next(#, -1)", Sample.NO_SETS, s -> x -> x.next(s, -1), KeyRows.UNKNOWN);
            DUE.stays("next(#, 4097)", Sample.NO_SETS, s -> x -> x.next(s, 4097), KeyRows.UNKNOWN);
        });
    }

    private static void promise11() {
        DUE.test("11: less than v: v itself does not fit", () -> rows("before", 3, KeyRows::before,
            new int[][] {{4, 3}, {31, 3}, {32, 31}, {33, 32}, {255, 32}, {256, 255}, {257, 256}, {4095, 256},
                {4096, 4095}}));
        DUE.test("11: NONE: v is 0, or not above the least NUMBER", () -> {
            rows("before", 3, KeyRows::before, new int[][] {{0, -1}, {2, -1}, {3, -1}});
            rows("before", 6, KeyRows::before, new int[][] {{0, -1}, {1, 0}});
            rows("before", 1, KeyRows::before, new int[][] {{0, -1}, {1, 0}, {4096, 0}});
            rows("before", 2, KeyRows::before, new int[][] {{0, -1}, {4094, -1}, {4095, -1}, {4096, 4095}});
        });
        DUE.test("11: each v of all NUMBERS, of none, of the first one", () -> {
            each("before", 4096, 6, KeyRows::before, v -> v > 0 ? v - 1 : KeyRows.NONE);
            each("before", 4096, 0, KeyRows::before, v -> KeyRows.NONE);
            each("before", 4096, 1, KeyRows::before, v -> v > 0 ? 0 : KeyRows.NONE);
        });
        DUE.test("11: asking changes nothing", () -> onlyAsks("before", x -> x.before(3, 4) + x.before(6, 0)));
        DUE.test("11: OUTSIDE: v below 0 or above 4096", () -> {
            DUE.stays("before(6, #)", Sample.NO_BORDERS, v -> x -> x.before(6, v), KeyRows.OUTSIDE);
            DUE.stays("before(0, #)", Sample.NO_BORDERS, v -> x -> x.before(0, v), KeyRows.OUTSIDE);
        });
        DUE.test("11: UNKNOWN: no SET", () -> {
            DUE.stays("before(#, 0)", Sample.NO_SETS, s -> x -> x.before(s, 0), KeyRows.UNKNOWN);
            DUE.stays("before(#, 4096)", Sample.NO_SETS, s -> x -> x.before(s, 4096), KeyRows.UNKNOWN);
        });
        DUE.test("11: UNKNOWN ahead of OUTSIDE", () -> {
            DUE.stays("before(#, -1)", Sample.NO_SETS, s -> x -> x.before(s, -1), KeyRows.UNKNOWN);
            DUE.stays("before(#, 4097)", Sample.NO_SETS, s -> x -> x.before(s, 4097), KeyRows.UNKNOWN);
        });
    }

    private static void promise12() {
        DUE.test("12: none, the first, the last, some, all, whichever is a", () -> {
            // How many NUMBERS each SET of the sample shares with each.
            int[][] table = {{0, 0, 0, 0, 0, 0, 0, 0}, {0, 1, 0, 0, 0, 0, 1, 0}, {0, 0, 1, 1, 0, 0, 1, 0},
                {0, 0, 1, 6, 0, 0, 6, 0}, {0, 0, 0, 0, 3, 1, 3, 0}, {0, 0, 0, 0, 1, 3, 3, 0},
                {0, 1, 1, 6, 3, 3, 4096, 1}, {0, 0, 0, 0, 0, 0, 1, 1}};
            for (int a = 0; a < 8; a++) {
                for (int b = 0; b < 8; b++) {
                    DUE.is("common(" + a + ", " + b + ")", Sample.make().common(a, b), table[a][b]);
                }
            }
        });
        DUE.test("12: NUMBERS that lie between each other are not shared", () -> {
            KeyRows x = new KeyRows();
            for (int v = 0; v < 200; v++) {
                x.put(v % 2, v == 199 ? 4095 : v);
            }
            DUE.is("common(0, 1)", x.common(0, 1), 0);
            DUE.is("common(0, 0)", x.common(0, 0), 100);
        });
        DUE.test("12: asking changes nothing", () -> onlyAsks("common", x -> x.common(3, 6) + x.common(4, 5)));
        DUE.test("12: UNKNOWN: no SET a, no SET b, neither", () -> {
            DUE.stays("common(#, 6)", Sample.NO_SETS, s -> x -> x.common(s, 6), KeyRows.UNKNOWN);
            DUE.stays("common(6, #)", Sample.NO_SETS, s -> x -> x.common(6, s), KeyRows.UNKNOWN);
            DUE.stays("common(#, #)", Sample.NO_SETS, s -> x -> x.common(s, s), KeyRows.UNKNOWN);
            DUE.stays("common(0, #)", Sample.NO_SETS, s -> x -> x.common(0, s), KeyRows.UNKNOWN);
        });
    }

    private static void piece(KeyRows x, int set, int h, int form, int amount, int runs, int bits) {
        DUE.is("FORM of PIECE " + h, x.piece(set, h, 0), form);
        DUE.is("NUMBERS of PIECE " + h, x.piece(set, h, 1), amount);
        DUE.is("RUNS of PIECE " + h, x.piece(set, h, 2), runs);
        DUE.is("bits of PIECE " + h, x.piece(set, h, 3), bits);
    }

    private static void promise13() {
        DUE.test("13: its FORM, its NUMBERS, its RUNS, its bits", () -> {
            KeyRows x = Sample.make();
            piece(x, 3, 0, 0, 4, 3, 32);
            piece(x, 3, 1, 0, 1, 1, 8);
            piece(x, 3, 15, 0, 1, 1, 8);
            piece(x, 4, 0, 2, 3, 1, 16);
        });
        DUE.test("13: a PIECE without NUMBERS: NONE, and 0", AskedTest::piecesWithout);
        DUE.test("13: a PIECE with all its NUMBERS", () -> {
            KeyRows x = Sample.make();
            for (int h = 0; h < 16; h++) {
                piece(x, 6, h, 2, 256, 1, 16);
            }
        });
        DUE.test("13: NUMBERS 256 h and 256 h + 255 are in PIECE h alone", AskedTest::piecesAtTheirEnds);
        DUE.test("13: asking changes nothing", () -> {
            for (int what = 0; what < 4; what++) {
                int w = what;
                onlyAsks("piece", x -> x.piece(3, 0, w) + x.piece(6, 15, w) + x.piece(0, 0, w));
            }
        });
        DUE.test("13: OUTSIDE: h below 0 or above 15, whatever is asked", () -> {
            for (int what = -1; what < 5; what++) {
                int w = what;
                DUE.stays("piece(6, #, w)", Sample.NO_PIECES, h -> x -> x.piece(6, h, w), KeyRows.OUTSIDE);
                DUE.stays("piece(0, #, w)", Sample.NO_PIECES, h -> x -> x.piece(0, h, w), KeyRows.OUTSIDE);
            }
        });
        DUE.test("13: OUTSIDE: what below 0 or above 3, also of a PIECE without NUMBERS", () -> {
            for (int h : new int[] {0, 15}) {
                DUE.stays("piece(6, h, #)", Sample.NO_WAYS, w -> x -> x.piece(6, h, w), KeyRows.OUTSIDE);
                DUE.stays("piece(0, h, #)", Sample.NO_WAYS, w -> x -> x.piece(0, h, w), KeyRows.OUTSIDE);
            }
        });
        DUE.test("13: UNKNOWN: no SET", () -> {
            for (int what = 0; what < 4; what++) {
                int w = what;
                DUE.stays("piece(#, 0, w)", Sample.NO_SETS, s -> x -> x.piece(s, 0, w), KeyRows.UNKNOWN);
                DUE.stays("piece(#, 15, w)", Sample.NO_SETS, s -> x -> x.piece(s, 15, w), KeyRows.UNKNOWN);
            }
        });
        DUE.test("13: UNKNOWN ahead of OUTSIDE", () -> {
            DUE.stays("piece(#, -1, 0)", Sample.NO_SETS, s -> x -> x.piece(s, -1, 0), KeyRows.UNKNOWN);
            DUE.stays("piece(#, 16, 0)", Sample.NO_SETS, s -> x -> x.piece(s, 16, 0), KeyRows.UNKNOWN);
            DUE.stays("piece(#, 0, -1)", Sample.NO_SETS, s -> x -> x.piece(s, 0, -1), KeyRows.UNKNOWN);
            DUE.stays("piece(#, 0, 4)", Sample.NO_SETS, s -> x -> x.piece(s, 0, 4), KeyRows.UNKNOWN);
        });
    }

    private static void piecesWithout() {
        KeyRows x = Sample.make();
        for (int h = 0; h < 16; h++) {
            piece(x, 0, h, KeyRows.NONE, 0, 0, 0);
        }
        for (int h = 1; h < 16; h++) {
            piece(x, 1, h, KeyRows.NONE, 0, 0, 0);
            x.drop(6, 256 * h, 256 * h + 255);
            piece(x, 6, h, KeyRows.NONE, 0, 0, 0);
        }
        piece(x, 6, 0, 2, 256, 1, 16);
    }

    private static void piecesAtTheirEnds() {
        for (int h = 0; h < 16; h++) {
            for (int v : new int[] {256 * h, 256 * h + 255}) {
                KeyRows x = new KeyRows();
                x.put(5, v);
                for (int other = 0; other < 16; other++) {
                    if (other == h) {
                        piece(x, 5, other, 0, 1, 1, 8);
                    } else {
                        piece(x, 5, other, KeyRows.NONE, 0, 0, 0);
                    }
                }
            }
        }
    }

    private static void promise14() {
        DUE.test("14: 0 without NUMBERS", () -> DUE.is("cost(0)", Sample.make().cost(0), 0));
        DUE.test("14: 16 bits and those of the FORM for each PIECE with NUMBERS, and no other", () -> {
            int[] costs = {0, 16 + 8, 16 + 8, 16 + 32 + 16 + 8 + 16 + 8, 16 + 16, 16 + 16, 16 * (16 + 16), 16 + 8};
            for (int set = 0; set < 8; set++) {
                DUE.is("cost(" + set + ")", Sample.make().cost(set), costs[set]);
            }
        });
        DUE.test("14: each PIECE, from the first to the last", () -> {
            KeyRows x = new KeyRows();
            for (int h = 0; h < 16; h++) {
                x.put(2, 256 * h + 255);
                DUE.is("cost(2)", x.cost(2), 24 * (h + 1));
            }
            for (int h = 0; h < 16; h++) {
                x.drop(2, 256 * h, 256 * h + 255);
                DUE.is("cost(2)", x.cost(2), 24 * (15 - h));
            }
        });
        DUE.test("14: the greatest, each PIECE of the FORM BITS", () -> {
            KeyRows x = manyGaps();
            DUE.is("cost(1)", x.cost(1), 16 * (16 + 256));
            for (int h = 0; h < 16; h++) {
                DUE.is("FORM of PIECE " + h, x.piece(1, h, 0), 1);
            }
        });
        DUE.test("14: asking changes nothing", () -> onlyAsks("cost", x -> x.cost(0) + x.cost(3) + x.cost(6)));
        DUE.test("14: UNKNOWN: no SET", () ->
            DUE.stays("cost(#)", Sample.NO_SETS, s -> x -> x.cost(s), KeyRows.UNKNOWN));
    }

    /** SET 1 has 0, 2, 3, 5, 6 and so on: the bits 10 of all NUMBERS, read as gaps of 1 and of 2. */
    private static KeyRows manyGaps() {
        KeyRows x = new KeyRows();
        x.fill(0, 0, 4095);
        x.write(0, 0);
        int n = 2730;
        for (int i = 0; i < 13; i++) {
            if (x.bit(i) != (n >> (12 - i) & 1)) {
                x.flip(i);
            }
        }
        x.cut(13 + n / 2 * 4);
        DUE.is("read(1, 1)", x.read(1, 1), n);
        DUE.is("before(1, 4096)", x.before(1, 4096), 4094);
        return x;
    }
}

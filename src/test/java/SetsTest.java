import java.util.function.BiFunction;

/** Promises 1 to 5: a new object, and what changes its SETS. */
public final class SetsTest {
    private static final Due DUE = new Due("SetsTest");
    private static final int[] SPAN_EDGES =
        {0, 1, 30, 31, 32, 33, 63, 64, 254, 255, 256, 257, 511, 512, 3839, 3840, 4063, 4064, 4094, 4095};

    public static void main(String[] args) {
        promise1();
        promise2();
        promise3();
        promise4();
        promise5();
        promise5Refused();
        DUE.end();
    }

    private static void promise1() {
        DUE.test("1: all SETS without NUMBERS", SetsTest::newSets);
        DUE.test("1: no PIECE of a new SET has NUMBERS", SetsTest::newPieces);
        DUE.test("1: an empty TAPE", SetsTest::newTape);
        DUE.test("1: an object is new whatever others have", SetsTest::objectsApart);
    }

    private static void newSets() {
        KeyRows x = new KeyRows();
        for (int set = 0; set < 8; set++) {
            DUE.is("count", x.count(set), 0);
            DUE.is("cost", x.cost(set), 0);
            DUE.is("has the first", x.has(set, 0), 0);
            DUE.is("has the last", x.has(set, 4095), 0);
            DUE.is("rank of all", x.rank(set, 4096), 0);
            DUE.is("select the first", x.select(set, 0), KeyRows.NONE);
            DUE.is("next", x.next(set, 0), KeyRows.NONE);
            DUE.is("before", x.before(set, 4096), KeyRows.NONE);
            DUE.is("common with itself", x.common(set, set), 0);
            DUE.is("length of TWO PARTS", x.length(set, 0), 13);
            DUE.is("length of GAPS", x.length(set, 1), 13);
            DUE.is("length of PIECES", x.length(set, 2), 32);
        }
        DUE.same("what is there", Sample.state(x), "0: \n1: \n2: \n3: \n4: \n5: \n6: \n7: \n");
    }

    private static void newPieces() {
        for (int set = 0; set < 8; set++) {
            KeyRows x = new KeyRows();
            for (int h = 0; h < 16; h++) {
                DUE.is("its FORM", x.piece(set, h, 0), KeyRows.NONE);
                for (int what = 1; what < 4; what++) {
                    DUE.is("piece(" + set + ", " + h + ", " + what + ")", x.piece(set, h, what), 0);
                }
            }
        }
    }

    private static void newTape() {
        DUE.is("size()", new KeyRows().size(), 0);
        DUE.is("bit(0)", new KeyRows().bit(0), KeyRows.NONE);
        DUE.is("flip(0)", new KeyRows().flip(0), KeyRows.NONE);
        DUE.is("cut(0)", new KeyRows().cut(0), 0);
        DUE.is("sign", new KeyRows().sign(true), 1);
        for (int kind = 0; kind < 3; kind++) {
            DUE.is("read", new KeyRows().read(0, kind), KeyRows.NONE);
            DUE.is("ask", new KeyRows().ask(kind, 0), KeyRows.NONE);
        }
    }

    private static void objectsApart() {
        KeyRows x = new KeyRows();
        KeyRows other = Sample.makeFull();
        KeyRows later = new KeyRows();
        DUE.is("size() of the other", other.size(), 8210);
        DUE.same("what is there", Sample.state(x), "0: \n1: \n2: \n3: \n4: \n5: \n6: \n7: \n");
        DUE.same("what is there later", Sample.state(later), "0: \n1: \n2: \n3: \n4: \n5: \n6: \n7: \n");
    }

    private static void promise2() {
        DUE.test("2: any NUMBER, 0 to 4095, comes into a SET: 1; 0: it was in it", SetsTest::putEach);
        DUE.test("2: SET 0 and SET 7 are the first and the last", SetsTest::putIntoEachSet);
        DUE.test("2: the last NUMBER that a SET lacked", SetsTest::putTheLastMissing);
        DUE.test("2: 0 of all NUMBERS: it was in it", SetsTest::putIntoAll);
        DUE.test("2: 0, and nothing changes", () -> {
            DUE.stays("put(1, 0)", x -> x.put(1, 0), 0);
            DUE.stays("put(2, 4095)", x -> x.put(2, 4095), 0);
            DUE.stays("put(3, 256)", x -> x.put(3, 256), 0);
        });
        DUE.test("2: OUTSIDE: no NUMBER, and nothing changes", () -> {
            DUE.stays("put(0, #)", Sample.NO_NUMBERS, v -> x -> x.put(0, v), KeyRows.OUTSIDE);
            DUE.stays("put(7, #)", Sample.NO_NUMBERS, v -> x -> x.put(7, v), KeyRows.OUTSIDE);
        });
        DUE.test("2: UNKNOWN: no SET, and nothing changes", () -> {
            DUE.stays("put(#, 0)", Sample.NO_SETS, s -> x -> x.put(s, 0), KeyRows.UNKNOWN);
            DUE.stays("put(#, 4095)", Sample.NO_SETS, s -> x -> x.put(s, 4095), KeyRows.UNKNOWN);
        });
        DUE.test("2: UNKNOWN ahead of OUTSIDE", () -> {
            DUE.stays("put(#, -1)", Sample.NO_SETS, s -> x -> x.put(s, -1), KeyRows.UNKNOWN);
            DUE.stays("put(#, 4096)", Sample.NO_SETS, s -> x -> x.put(s, 4096), KeyRows.UNKNOWN);
        });
    }

    private static void putEach() {
        for (int from = 0; from < 4096; from += 64) {
            KeyRows x = new KeyRows();
            for (int v = from; v < from + 64; v++) {
                DUE.is("has(0, " + v + ") ahead", x.has(0, v), 0);
                DUE.is("put(0, " + v + ")", x.put(0, v), 1);
                DUE.is("has(0, " + v + ") behind", x.has(0, v), 1);
                DUE.is("put(0, " + v + ") again", x.put(0, v), 0);
                DUE.is("count(0)", x.count(0), v - from + 1);
            }
        }
    }

    private static void putIntoEachSet() {
        for (int set = 0; set < 8; set++) {
            KeyRows x = new KeyRows();
            DUE.is("put(" + set + ", 0)", x.put(set, 0), 1);
            DUE.is("put(" + set + ", 4095)", x.put(set, 4095), 1);
            for (int other = 0; other < 8; other++) {
                DUE.same("SET " + other, Due.numbers(x, other), other == set ? "0 4095" : "");
            }
        }
    }

    private static void putTheLastMissing() {
        for (int v : new int[] {0, 31, 32, 255, 256, 4094, 4095}) {
            KeyRows x = new KeyRows();
            x.fill(0, 0, 4095);
            x.drop(0, v, v);
            DUE.is("count(0)", x.count(0), 4095);
            DUE.is("put(0, " + v + ")", x.put(0, v), 1);
            DUE.is("count(0)", x.count(0), 4096);
        }
    }

    private static void putIntoAll() {
        for (int from = 0; from < 4096; from += 256) {
            KeyRows x = new KeyRows();
            x.fill(0, 0, 4095);
            for (int v = from; v < from + 256; v++) {
                DUE.is("put(0, " + v + ")", x.put(0, v), 0);
            }
            DUE.is("count(0)", x.count(0), 4096);
        }
    }

    private static void promise3() {
        DUE.test("3: just the NUMBERS from first to last come in", SetsTest::fillSpans);
        DUE.test("3: how many were not in it", SetsTest::fillWhatIsThere);
        DUE.test("3: first and last may be the same NUMBER", SetsTest::fillOne);
        DUE.test("3: all NUMBERS; none of them; all but one", SetsTest::fillAll);
        DUE.test("3: SET 0 and SET 7 are the first and the last", SetsTest::fillEachSet);
        DUE.test("3: 0: all were in it, and nothing changes", () -> {
            DUE.stays("fill(6, 0, 4095)", x -> x.fill(6, 0, 4095), 0);
            DUE.stays("fill(4, 10, 12)", x -> x.fill(4, 10, 12), 0);
            DUE.stays("fill(1, 0, 0)", x -> x.fill(1, 0, 0), 0);
            DUE.stays("fill(2, 4095, 4095)", x -> x.fill(2, 4095, 4095), 0);
        });
        DUE.test("3: OUTSIDE: no NUMBER, first or last, and nothing changes", () ->
            spanOutside("fill", (first, last) -> x -> x.fill(0, first, last)));
        DUE.test("3: OUTSIDE: a first one above a last one, and nothing changes", () ->
            spanUpsideDown("fill", (first, last) -> x -> x.fill(0, first, last)));
        DUE.test("3: UNKNOWN: no SET, and nothing changes", () -> {
            DUE.stays("fill(#, 0, 4095)", Sample.NO_SETS, s -> x -> x.fill(s, 0, 4095), KeyRows.UNKNOWN);
            DUE.stays("fill(#, 5, 5)", Sample.NO_SETS, s -> x -> x.fill(s, 5, 5), KeyRows.UNKNOWN);
        });
        DUE.test("3: UNKNOWN ahead of OUTSIDE", () -> {
            DUE.stays("fill(#, -1, 5)", Sample.NO_SETS, s -> x -> x.fill(s, -1, 5), KeyRows.UNKNOWN);
            DUE.stays("fill(#, 5, 4096)", Sample.NO_SETS, s -> x -> x.fill(s, 5, 4096), KeyRows.UNKNOWN);
            DUE.stays("fill(#, 6, 5)", Sample.NO_SETS, s -> x -> x.fill(s, 6, 5), KeyRows.UNKNOWN);
        });
    }

    /** The count, the NUMBERS at both ends and those beside them tell a span that is too short or too long. */
    private static void span(String call, KeyRows x, int first, int last, int inside, int amount) {
        DUE.is("count behind " + call, x.count(0), amount);
        DUE.is("first behind " + call, x.has(0, first), inside);
        DUE.is("last behind " + call, x.has(0, last), inside);
        DUE.is("rank(last) - rank(first) behind " + call, x.rank(0, last) - x.rank(0, first),
            inside * (last - first));
        if (first > 0) {
            DUE.is("ahead of first behind " + call, x.has(0, first - 1), 1 - inside);
        }
        if (last < 4095) {
            DUE.is("behind last behind " + call, x.has(0, last + 1), 1 - inside);
        }
    }

    private static void fillSpans() {
        for (int first : SPAN_EDGES) {
            for (int last : SPAN_EDGES) {
                if (first <= last) {
                    KeyRows x = new KeyRows();
                    String call = "fill(0, " + first + ", " + last + ")";
                    DUE.is(call, x.fill(0, first, last), last - first + 1);
                    span(call, x, first, last, 1, last - first + 1);
                }
            }
        }
    }

    private static void fillWhatIsThere() {
        KeyRows x = new KeyRows();
        x.fill(0, 30, 33);
        DUE.is("fill(0, 33, 35)", x.fill(0, 33, 35), 2);
        DUE.is("fill(0, 29, 30)", x.fill(0, 29, 30), 1);
        DUE.is("fill(0, 31, 34)", x.fill(0, 31, 34), 0);
        DUE.is("fill(0, 36, 36)", x.fill(0, 36, 36), 1);
        DUE.same("SET 0", Due.numbers(x, 0), "29 30 31 32 33 34 35 36");
        DUE.is("fill(0, 20, 50)", x.fill(0, 20, 50), 23);
        DUE.is("count(0)", x.count(0), 31);
        x.put(1, 0);
        x.put(1, 4095);
        DUE.is("fill(1, 0, 4095)", x.fill(1, 0, 4095), 4094);
    }

    private static void fillOne() {
        for (int from = 0; from < 4096; from += 128) {
            KeyRows x = new KeyRows();
            for (int v = from; v < from + 128; v++) {
                DUE.is("fill(0, " + v + ", " + v + ")", x.fill(0, v, v), 1);
                DUE.is("fill(0, " + v + ", " + v + ") again", x.fill(0, v, v), 0);
                DUE.is("count(0)", x.count(0), v - from + 1);
            }
        }
    }

    private static void fillAll() {
        KeyRows x = new KeyRows();
        DUE.is("fill(0, 0, 4095)", x.fill(0, 0, 4095), 4096);
        DUE.is("count(0)", x.count(0), 4096);
        DUE.is("fill(0, 0, 4095) again", x.fill(0, 0, 4095), 0);
        for (int v : SPAN_EDGES) {
            x.drop(0, v, v);
            DUE.is("fill(0, 0, 4095) without " + v, x.fill(0, 0, 4095), 1);
            DUE.is("has(0, " + v + ")", x.has(0, v), 1);
        }
        DUE.is("count(0)", x.count(0), 4096);
    }

    private static void fillEachSet() {
        for (int set = 0; set < 8; set++) {
            KeyRows x = new KeyRows();
            DUE.is("fill(" + set + ", 255, 256)", x.fill(set, 255, 256), 2);
            for (int other = 0; other < 8; other++) {
                DUE.same("SET " + other, Due.numbers(x, other), other == set ? "255 256" : "");
            }
        }
    }

    private interface Span extends BiFunction<Integer, Integer, java.util.function.ToIntFunction<KeyRows>> {
    }

    private static void spanOutside(String call, Span made) {
        for (int v : Sample.NO_NUMBERS) {
            int[][] pairs = {{v, 0}, {v, 5}, {v, 4095}, {0, v}, {5, v}, {4095, v}, {v, v}};
            for (int[] pair : pairs) {
                DUE.stays(call + " " + pair[0] + ", " + pair[1], made.apply(pair[0], pair[1]), KeyRows.OUTSIDE);
            }
        }
        int least = Integer.MIN_VALUE;
        int greatest = Integer.MAX_VALUE;
        int[][] pairs = {{-1, 4096}, {4096, -1}, {least, greatest}, {greatest, least}, {-2, -1}, {4096, 4097}};
        for (int[] pair : pairs) {
            DUE.stays(call + " " + pair[0] + ", " + pair[1], made.apply(pair[0], pair[1]), KeyRows.OUTSIDE);
        }
    }

    private static void spanUpsideDown(String call, Span made) {
        int[][] pairs = {{1, 0}, {4095, 0}, {4095, 4094}, {32, 31}, {256, 255}, {12, 10}, {9, 8}};
        for (int[] pair : pairs) {
            DUE.stays(call + " " + pair[0] + ", " + pair[1], made.apply(pair[0], pair[1]), KeyRows.OUTSIDE);
        }
    }

    private static void promise4() {
        DUE.test("4: just the NUMBERS from first to last go out", SetsTest::dropSpans);
        DUE.test("4: how many were in it", SetsTest::dropWhatIsThere);
        DUE.test("4: first and last may be the same NUMBER", SetsTest::dropOne);
        DUE.test("4: all NUMBERS; all there are; the last one", SetsTest::dropAll);
        DUE.test("4: SET 0 and SET 7 are the first and the last", SetsTest::dropOfEachSet);
        DUE.test("4: 0: none was in it, and nothing changes", () -> {
            DUE.stays("drop(0, 0, 4095)", x -> x.drop(0, 0, 4095), 0);
            DUE.stays("drop(1, 1, 4095)", x -> x.drop(1, 1, 4095), 0);
            DUE.stays("drop(2, 0, 4094)", x -> x.drop(2, 0, 4094), 0);
            DUE.stays("drop(3, 33, 254)", x -> x.drop(3, 33, 254), 0);
        });
        DUE.test("4: OUTSIDE: no NUMBER, first or last, and nothing changes", () -> {
            spanOutside("drop of all,", (first, last) -> x -> x.drop(6, first, last));
            spanOutside("drop", (first, last) -> x -> x.drop(3, first, last));
        });
        DUE.test("4: OUTSIDE: a first one above a last one, and nothing changes", () -> {
            spanUpsideDown("drop of all,", (first, last) -> x -> x.drop(6, first, last));
            spanUpsideDown("drop", (first, last) -> x -> x.drop(4, first, last));
        });
        DUE.test("4: UNKNOWN: no SET, and nothing changes", () -> {
            DUE.stays("drop(#, 0, 4095)", Sample.NO_SETS, s -> x -> x.drop(s, 0, 4095), KeyRows.UNKNOWN);
            DUE.stays("drop(#, 0, 0)", Sample.NO_SETS, s -> x -> x.drop(s, 0, 0), KeyRows.UNKNOWN);
        });
        DUE.test("4: UNKNOWN ahead of OUTSIDE", () -> {
            DUE.stays("drop(#, -1, 5)", Sample.NO_SETS, s -> x -> x.drop(s, -1, 5), KeyRows.UNKNOWN);
            DUE.stays("drop(#, 5, 4096)", Sample.NO_SETS, s -> x -> x.drop(s, 5, 4096), KeyRows.UNKNOWN);
            DUE.stays("drop(#, 6, 5)", Sample.NO_SETS, s -> x -> x.drop(s, 6, 5), KeyRows.UNKNOWN);
        });
    }

    private static void dropSpans() {
        for (int first : SPAN_EDGES) {
            for (int last : SPAN_EDGES) {
                if (first <= last) {
                    KeyRows x = new KeyRows();
                    x.fill(0, 0, 4095);
                    String call = "drop(0, " + first + ", " + last + ")";
                    DUE.is(call, x.drop(0, first, last), last - first + 1);
                    span(call, x, first, last, 0, 4096 - (last - first + 1));
                }
            }
        }
    }

    private static void dropWhatIsThere() {
        KeyRows x = new KeyRows();
        x.fill(3, 60, 70);
        DUE.is("drop(3, 62, 68)", x.drop(3, 62, 68), 7);
        DUE.same("SET 3", Due.numbers(x, 3), "60 61 69 70");
        DUE.is("drop(3, 62, 68) again", x.drop(3, 62, 68), 0);
        DUE.is("drop(3, 61, 69)", x.drop(3, 61, 69), 2);
        DUE.is("drop(3, 70, 4095)", x.drop(3, 70, 4095), 1);
        DUE.same("SET 3", Due.numbers(x, 3), "60");
        DUE.is("drop(3, 0, 60)", x.drop(3, 0, 60), 1);
        DUE.is("count(3)", x.count(3), 0);
    }

    private static void dropOne() {
        for (int from = 0; from < 4096; from += 128) {
            KeyRows x = new KeyRows();
            x.fill(0, 0, 4095);
            for (int v = from; v < from + 128; v++) {
                DUE.is("drop(0, " + v + ", " + v + ")", x.drop(0, v, v), 1);
                DUE.is("drop(0, " + v + ", " + v + ") again", x.drop(0, v, v), 0);
                DUE.is("has(0, " + v + ")", x.has(0, v), 0);
            }
            DUE.is("count(0)", x.count(0), 4096 - 128);
        }
    }

    private static void dropAll() {
        KeyRows x = Sample.make();
        DUE.is("drop(6, 0, 4095)", x.drop(6, 0, 4095), 4096);
        DUE.is("count(6)", x.count(6), 0);
        DUE.is("drop(6, 0, 4095) again", x.drop(6, 0, 4095), 0);
        DUE.is("drop(3, 0, 4095)", x.drop(3, 0, 4095), 6);
        DUE.is("drop(1, 0, 0)", x.drop(1, 0, 0), 1);
        DUE.is("drop(2, 4095, 4095)", x.drop(2, 4095, 4095), 1);
        for (int set : new int[] {1, 2, 3, 6}) {
            DUE.is("count(" + set + ")", x.count(set), 0);
            DUE.is("cost(" + set + ")", x.cost(set), 0);
        }
    }

    private static void dropOfEachSet() {
        for (int set = 0; set < 8; set++) {
            KeyRows x = new KeyRows();
            for (int other = 0; other < 8; other++) {
                x.fill(other, 255, 256);
            }
            DUE.is("drop(" + set + ", 256, 4095)", x.drop(set, 256, 4095), 1);
            for (int other = 0; other < 8; other++) {
                DUE.same("SET " + other, Due.numbers(x, other), other == set ? "255" : "255 256");
            }
        }
    }

    private static void promise5() {
        DUE.test("5: in a and in b (0), in one at least (1), in a but not in b (2), in just one (3)",
            SetsTest::joinEachNumber);
        DUE.test("5: of no NUMBERS and of all of them: how many it has", SetsTest::joinNoneAndAll);
        DUE.test("5: a SET becomes: what it had is gone", SetsTest::joinOverWhatWasThere);
        DUE.test("5: a and b stay, whatever comes of the SET later", SetsTest::joinLeavesBoth);
        DUE.test("5: the SET stays, whatever comes of a and b later", SetsTest::joinStandsApart);
        DUE.test("5: the SET may be a, or b, or both", SetsTest::joinOntoItself);
        DUE.test("5: SET 0 and SET 7 are the first and the last", SetsTest::joinEachSet);
    }

    /** At each edge one NUMBER that is in neither, one in a, one in b and one in both. */
    private static void joinEachNumber() {
        String[] want = {"", "", "", ""};
        KeyRows x = new KeyRows();
        for (int at : new int[] {0, 30, 60, 254, 2046, 4092}) {
            x.put(0, at + 1);
            x.put(1, at + 2);
            x.put(0, at + 3);
            x.put(1, at + 3);
            want[0] += " " + (at + 3);
            want[1] += " " + (at + 1) + " " + (at + 2) + " " + (at + 3);
            want[2] += " " + (at + 1);
            want[3] += " " + (at + 1) + " " + (at + 2);
        }
        int[] amounts = {6, 18, 6, 12};
        for (int kind = 0; kind < 4; kind++) {
            DUE.is("join(2, 0, 1, " + kind + ")", x.join(2, 0, 1, kind), amounts[kind]);
            DUE.same("its SET", " " + Due.numbers(x, 2), want[kind]);
        }
        DUE.is("join(2, 1, 0, 2)", x.join(2, 1, 0, 2), 6);
        DUE.same("its SET", Due.numbers(x, 2), "2 32 62 256 2048 4094");
    }

    private static void joinNoneAndAll() {
        // a, b, and how many there are of each kind; SET 0 has none, 6 all, 1 has 0, 2 has 4095.
        int[][] rows = {{0, 0, 0, 0, 0, 0}, {0, 6, 0, 4096, 0, 4096}, {6, 0, 0, 4096, 4096, 4096},
            {6, 6, 4096, 4096, 0, 0}, {1, 6, 1, 4096, 0, 4095}, {6, 1, 1, 4096, 4095, 4095},
            {2, 6, 1, 4096, 0, 4095}, {6, 2, 1, 4096, 4095, 4095}, {1, 2, 0, 2, 1, 2}, {0, 2, 0, 1, 0, 1},
            {2, 0, 0, 1, 1, 1}, {1, 1, 1, 1, 0, 0}};
        for (int[] row : rows) {
            for (int kind = 0; kind < 4; kind++) {
                KeyRows x = Sample.make();
                String call = "join(7, " + row[0] + ", " + row[1] + ", " + kind + ")";
                DUE.is(call, x.join(7, row[0], row[1], kind), row[2 + kind]);
                DUE.is("count behind " + call, x.count(7), row[2 + kind]);
                DUE.is("has(7, 77) behind " + call, x.has(7, 77), row[2 + kind] > 4000 ? 1 : 0);
            }
        }
    }

    private static void joinOverWhatWasThere() {
        for (int kind = 0; kind < 4; kind++) {
            KeyRows x = Sample.make();
            DUE.is("join(6, 4, 5, " + kind + ")", x.join(6, 4, 5, kind), new int[] {1, 5, 2, 4}[kind]);
            DUE.same("SET 6", Due.numbers(x, 6), new String[] {"12", "10 11 12 13 14", "10 11", "10 11 13 14"}[kind]);
            DUE.is("join(3, 0, 0, " + kind + ")", x.join(3, 0, 0, kind), 0);
            DUE.is("count(3)", x.count(3), 0);
        }
    }

    /** Whatever a and b are: SET 7, its NUMBERS changed behind the join, and then made as it was. */
    private static void joinLeavesBoth() {
        for (int a = 0; a < 7; a++) {
            for (int b = 0; b < 7; b++) {
                for (int kind = 0; kind < 4; kind++) {
                    KeyRows x = Sample.make();
                    x.join(7, a, b, kind);
                    x.fill(7, 0, 4095);
                    x.drop(7, 0, 4095);
                    x.put(7, 77);
                    DUE.same("what is there behind join(7, " + a + ", " + b + ", " + kind + ")", Sample.state(x),
                        Sample.STATE);
                }
            }
        }
    }

    private static void joinStandsApart() {
        for (int a = 0; a < 7; a++) {
            for (int b = 0; b < 7; b++) {
                for (int kind = 0; kind < 4; kind++) {
                    KeyRows x = Sample.make();
                    int n = x.join(7, a, b, kind);
                    x.fill(a, 0, 4095);
                    x.fill(b, 0, 4095);
                    DUE.is("count(7), a and b filled", x.count(7), n);
                    x.drop(a, 0, 4095);
                    x.drop(b, 0, 4095);
                    DUE.is("count(7), a and b without NUMBERS", x.count(7), n);
                }
            }
        }
    }

    private static void joinOntoItself() {
        String[] want = {"12", "10 11 12 13 14", "10 11", "10 11 13 14"};
        for (int kind = 0; kind < 4; kind++) {
            KeyRows x = Sample.make();
            DUE.is("join(4, 4, 5, " + kind + ")", x.join(4, 4, 5, kind), new int[] {1, 5, 2, 4}[kind]);
            DUE.same("SET 4", Due.numbers(x, 4), want[kind]);
            DUE.same("SET 5", Due.numbers(x, 5), "12 13 14");
            x = Sample.make();
            DUE.is("join(5, 4, 5, " + kind + ")", x.join(5, 4, 5, kind), new int[] {1, 5, 2, 4}[kind]);
            DUE.same("SET 5", Due.numbers(x, 5), want[kind]);
            DUE.same("SET 4", Due.numbers(x, 4), "10 11 12");
            x = Sample.make();
            DUE.is("join(4, 4, 4, " + kind + ")", x.join(4, 4, 4, kind), kind < 2 ? 3 : 0);
            DUE.same("SET 4", Due.numbers(x, 4), kind < 2 ? "10 11 12" : "");
            DUE.is("join(6, 6, 6, " + kind + ")", x.join(6, 6, 6, kind), kind < 2 ? 4096 : 0);
            DUE.is("count(6)", x.count(6), kind < 2 ? 4096 : 0);
            DUE.is("join(7, 5, 5, " + kind + ")", x.join(7, 5, 5, kind), kind < 2 ? 3 : 0);
            DUE.same("SET 7", Due.numbers(x, 7), kind < 2 ? "12 13 14" : "");
        }
    }

    private static void joinEachSet() {
        for (int set = 0; set < 8; set++) {
            KeyRows x = new KeyRows();
            x.fill(set, 1, 3);
            int next = (set + 1) % 8;
            int to = (set + 2) % 8;
            x.fill(next, 3, 5);
            DUE.is("join(" + to + ", " + set + ", " + next + ", 2)", x.join(to, set, next, 2), 2);
            for (int other = 0; other < 8; other++) {
                DUE.same("SET " + other, Due.numbers(x, other),
                    other == set ? "1 2 3" : other == next ? "3 4 5" : other == to ? "1 2" : "");
            }
        }
    }

    private static void promise5Refused() {
        DUE.test("5: OUTSIDE: a kind below 0 or above 3, and nothing changes", () -> {
            DUE.stays("join(0, 4, 5, #)", Sample.NO_WAYS, k -> x -> x.join(0, 4, 5, k), KeyRows.OUTSIDE);
            DUE.stays("join(4, 4, 5, #)", Sample.NO_WAYS, k -> x -> x.join(4, 4, 5, k), KeyRows.OUTSIDE);
            DUE.stays("join(7, 6, 0, #)", Sample.NO_WAYS, k -> x -> x.join(7, 6, 0, k), KeyRows.OUTSIDE);
        });
        DUE.test("5: UNKNOWN: no SET to, a or b, and nothing changes", () -> {
            for (int kind = 0; kind < 4; kind++) {
                int k = kind;
                DUE.stays("join(#, 4, 5, k)", Sample.NO_SETS, s -> x -> x.join(s, 4, 5, k), KeyRows.UNKNOWN);
                DUE.stays("join(0, #, 5, k)", Sample.NO_SETS, s -> x -> x.join(0, s, 5, k), KeyRows.UNKNOWN);
                DUE.stays("join(0, 4, #, k)", Sample.NO_SETS, s -> x -> x.join(0, 4, s, k), KeyRows.UNKNOWN);
                DUE.stays("join(#, #, #, k)", Sample.NO_SETS, s -> x -> x.join(s, s, s, k), KeyRows.UNKNOWN);
            }
        });
        DUE.test("5: UNKNOWN ahead of OUTSIDE", () -> {
            for (int kind : new int[] {-1, 4}) {
                DUE.stays("join(#, 4, 5, k)", Sample.NO_SETS, s -> x -> x.join(s, 4, 5, kind), KeyRows.UNKNOWN);
                DUE.stays("join(0, #, 5, k)", Sample.NO_SETS, s -> x -> x.join(0, s, 5, kind), KeyRows.UNKNOWN);
                DUE.stays("join(0, 4, #, k)", Sample.NO_SETS, s -> x -> x.join(0, 4, s, kind), KeyRows.UNKNOWN);
            }
        });
    }
}

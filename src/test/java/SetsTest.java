/** Promises 1 to 5: a new object, and what changes its SETS. */
public final class SetsTest {
    private static final Due DUE = new Due("SetsTest");
    private static final int[] NO_SETS = {-1, 8, Integer.MIN_VALUE, Integer.MAX_VALUE};
    private static final int[] NO_NUMBERS = {-1, 4096, Integer.MIN_VALUE, Integer.MAX_VALUE};

    public static void main(String[] args) {
        promise1();
        promise2();
        promise3();
        promise4();
        promise5();
        joinOntoItself();
        DUE.end();
    }

    private static void promise1() {
        KeyRows x = new KeyRows();
        for (int set = 0; set < 8; set++) {
            DUE.is("count of a new SET", x.count(set), 0);
            DUE.is("cost of a new SET", x.cost(set), 0);
            DUE.is("next of a new SET", x.next(set, 0), KeyRows.NONE);
        }
        DUE.is("size of a new TAPE", x.size(), 0);
        DUE.is("bit(0) of a new TAPE", x.bit(0), KeyRows.NONE);
        KeyRows other = new KeyRows();
        other.fill(0, 0, 4095);
        other.write(0, 1);
        DUE.is("count, another object filled", x.count(0), 0);
        DUE.is("size, another object written", x.size(), 0);
    }

    private static void promise2() {
        KeyRows x = new KeyRows();
        for (int v : new int[] {0, 31, 32, 255, 256, 4095}) {
            DUE.is("put " + v, x.put(7, v), 1);
            DUE.is("put again " + v, x.put(7, v), 0);
        }
        DUE.same("the SET", Due.numbers(x, 7), "0 31 32 255 256 4095");
        DUE.is("count(6)", x.count(6), 0);
        for (int set : NO_SETS) {
            DUE.is("put(" + set + ", 1)", x.put(set, 1), KeyRows.UNKNOWN);
            DUE.is("put(" + set + ", -1)", x.put(set, -1), KeyRows.UNKNOWN);
        }
        for (int v : NO_NUMBERS) {
            DUE.is("put(7, " + v + ")", x.put(7, v), KeyRows.OUTSIDE);
        }
        DUE.is("count(7)", x.count(7), 6);
    }

    private static void promise3() {
        KeyRows x = new KeyRows();
        DUE.is("fill(0, 30, 33)", x.fill(0, 30, 33), 4);
        DUE.same("the SET", Due.numbers(x, 0), "30 31 32 33");
        DUE.is("fill(0, 33, 35)", x.fill(0, 33, 35), 2);
        DUE.is("fill(0, 31, 31)", x.fill(0, 31, 31), 0);
        DUE.is("fill(0, 40, 40)", x.fill(0, 40, 40), 1);
        DUE.same("the SET", Due.numbers(x, 0), "30 31 32 33 34 35 40");
        DUE.is("fill(0, 0, 4095)", x.fill(0, 0, 4095), 4089);
        DUE.is("fill(0, 0, 4095) again", x.fill(0, 0, 4095), 0);
        DUE.is("fill(1, 4095, 4095)", x.fill(1, 4095, 4095), 1);
        DUE.is("fill(1, 0, 0)", x.fill(1, 0, 0), 1);
        DUE.same("the SET", Due.numbers(x, 1), "0 4095");
        for (int set : NO_SETS) {
            DUE.is("fill(" + set + ", 0, 1)", x.fill(set, 0, 1), KeyRows.UNKNOWN);
            DUE.is("fill(" + set + ", 1, 0)", x.fill(set, 1, 0), KeyRows.UNKNOWN);
        }
        for (int v : NO_NUMBERS) {
            DUE.is("fill(1, " + v + ", 9)", x.fill(1, v, 9), KeyRows.OUTSIDE);
            DUE.is("fill(1, 9, " + v + ")", x.fill(1, 9, v), KeyRows.OUTSIDE);
        }
        DUE.is("fill(1, 9, 8)", x.fill(1, 9, 8), KeyRows.OUTSIDE);
        DUE.same("the SET stays", Due.numbers(x, 1), "0 4095");
    }

    private static void promise4() {
        KeyRows x = new KeyRows();
        x.fill(3, 60, 70);
        DUE.is("drop(3, 62, 68)", x.drop(3, 62, 68), 7);
        DUE.same("the SET", Due.numbers(x, 3), "60 61 69 70");
        DUE.is("drop(3, 62, 68) again", x.drop(3, 62, 68), 0);
        DUE.is("drop(3, 61, 69)", x.drop(3, 61, 69), 2);
        DUE.is("drop(3, 70, 70)", x.drop(3, 70, 70), 1);
        DUE.same("the SET", Due.numbers(x, 3), "60");
        for (int set : NO_SETS) {
            DUE.is("drop(" + set + ", 0, 99)", x.drop(set, 0, 99), KeyRows.UNKNOWN);
            DUE.is("drop(" + set + ", 99, 0)", x.drop(set, 99, 0), KeyRows.UNKNOWN);
        }
        for (int v : NO_NUMBERS) {
            DUE.is("drop(3, " + v + ", 99)", x.drop(3, v, 99), KeyRows.OUTSIDE);
            DUE.is("drop(3, 9, " + v + ")", x.drop(3, 9, v), KeyRows.OUTSIDE);
        }
        DUE.is("drop(3, 61, 59)", x.drop(3, 61, 59), KeyRows.OUTSIDE);
        DUE.same("the SET stays", Due.numbers(x, 3), "60");
        x.fill(3, 0, 4095);
        DUE.is("drop(3, 0, 4095)", x.drop(3, 0, 4095), 4096);
        DUE.is("count(3)", x.count(3), 0);
    }

    private static void promise5() {
        KeyRows x = new KeyRows();
        x.fill(0, 10, 12);
        x.put(0, 4095);
        x.fill(1, 12, 14);
        x.put(1, 0);
        x.put(2, 77);
        DUE.is("join both", x.join(2, 0, 1, 0), 1);
        DUE.same("both", Due.numbers(x, 2), "12");
        DUE.is("join one at least", x.join(2, 0, 1, 1), 7);
        DUE.same("one at least", Due.numbers(x, 2), "0 10 11 12 13 14 4095");
        DUE.is("join a, not b", x.join(2, 0, 1, 2), 3);
        DUE.same("a, not b", Due.numbers(x, 2), "10 11 4095");
        DUE.is("join just one", x.join(2, 0, 1, 3), 6);
        DUE.same("just one", Due.numbers(x, 2), "0 10 11 13 14 4095");
        DUE.same("a stays", Due.numbers(x, 0), "10 11 12 4095");
        DUE.same("b stays", Due.numbers(x, 1), "0 12 13 14");
        for (int set : NO_SETS) {
            DUE.is("join to no SET", x.join(set, 0, 1, 9), KeyRows.UNKNOWN);
            DUE.is("join of no SET a", x.join(2, set, 1, 0), KeyRows.UNKNOWN);
            DUE.is("join of no SET b", x.join(2, 0, set, -1), KeyRows.UNKNOWN);
        }
        for (int kind : new int[] {-1, 4, Integer.MIN_VALUE, Integer.MAX_VALUE}) {
            DUE.is("join of kind " + kind, x.join(2, 0, 1, kind), KeyRows.OUTSIDE);
        }
        DUE.same("the SET stays", Due.numbers(x, 2), "0 10 11 13 14 4095");
    }

    private static void joinOntoItself() {
        for (int kind = 0; kind < 4; kind++) {
            KeyRows x = new KeyRows();
            x.fill(0, 10, 50);
            x.fill(1, 30, 90);
            x.join(2, 0, 1, kind);
            String want = Due.numbers(x, 2);
            x.join(3, 0, 0, 1);
            x.join(3, 3, 1, kind);
            DUE.same("join(a, a, b, " + kind + ")", Due.numbers(x, 3), want);
            x.join(3, 1, 1, 0);
            x.join(3, 0, 3, kind);
            DUE.same("join(b, a, b, " + kind + ")", Due.numbers(x, 3), want);
            DUE.is("join(a, a, a, " + kind + ")", x.join(0, 0, 0, kind), kind < 2 ? 41 : 0);
        }
    }
}

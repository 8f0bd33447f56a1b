import java.util.Random;

/** All promises at once: runs of at most 512 calls, drawn anew but always the same, beside the model. */
public final class ModelTest {
    private static final Due DUE = new Due("ModelTest");
    private static final int RUNS = 400;
    private static final int CALLS = 512;

    private final Random random;
    private final KeyRows real = new KeyRows();
    private final Model model = new Model();
    private final int run;

    private ModelTest(int run) {
        this.run = run;
        this.random = new Random(run);
    }

    public static void main(String[] args) {
        DUE.test("1 to 23: runs of 512 calls, drawn", () -> {
            for (int run = 0; run < RUNS; run++) {
                ModelTest test = new ModelTest(run);
                for (int call = 0; call < CALLS; call++) {
                    test.oneCall();
                }
            }
        });
        DUE.test("17, 18: CODES with some bits turned", () -> {
            for (int seed = 0; seed < 45; seed++) {
                nearlyCodes(seed);
            }
        });
        DUE.test("15 to 18: SETS of many NUMBERS with gaps", ModelTest::oneSetOnAnothersTape);
        DUE.end();
    }

    private void due(String call, int got, int want) {
        DUE.is("run " + run + ": " + call, got, want);
    }

    private int draw(int least, int greatest) {
        int chance = random.nextInt(60);
        return chance == 0 ? least - 1 : chance == 1 ? greatest + 1 : chance == 2 ? least
            : chance == 3 ? greatest : least + random.nextInt(greatest - least + 1);
    }

    private int set() {
        return random.nextInt(3) == 0 ? draw(0, 7) : random.nextInt(3);
    }

    /** A number near a word's or a PIECE's edge, or any. */
    private int number(int greatest) {
        int any = draw(0, greatest);
        return random.nextInt(3) == 0 ? (any & ~31) + random.nextInt(3) - 1 : any;
    }

    private void oneCall() {
        int kindOfCall = random.nextInt(40);
        if (kindOfCall < 16) {
            change(kindOfCall);
        } else if (kindOfCall < 28) {
            question(kindOfCall);
        } else {
            tape(kindOfCall);
        }
    }

    private void change(int which) {
        int s = set();
        int a = number(4095);
        int b = random.nextInt(2) == 0 ? a + random.nextInt(9) : number(4095);
        if (which < 6) {
            due("put(" + s + ", " + a + ")", real.put(s, a), model.fill(s, a, a, true));
        } else if (which < 10) {
            due("fill(" + s + ", " + a + ", " + b + ")", real.fill(s, a, b), model.fill(s, a, b, true));
        } else if (which < 13) {
            due("drop(" + s + ", " + a + ", " + b + ")", real.drop(s, a, b), model.fill(s, a, b, false));
        } else {
            int p = set();
            int q = set();
            int kind = draw(0, 3);
            due("join(" + s + ", " + p + ", " + q + ", " + kind + ")", real.join(s, p, q, kind),
                model.join(s, p, q, kind));
        }
    }

    private void question(int which) {
        int s = set();
        int v = number(4096);
        int k = draw(0, Math.max(1, model.count(s)));
        int what = draw(0, 3);
        int h = draw(0, 15);
        switch (which) {
            case 16 -> due("has(" + s + ", " + v + ")", real.has(s, v), model.has(s, v));
            case 17 -> due("count(" + s + ")", real.count(s), model.count(s));
            case 18 -> due("rank(" + s + ", " + v + ")", real.rank(s, v), model.rank(s, v));
            case 19 -> due("select(" + s + ", " + k + ")", real.select(s, k), model.select(s, k));
            case 20 -> due("next(" + s + ", " + v + ")", real.next(s, v), model.next(s, v));
            case 21 -> due("before(" + s + ", " + v + ")", real.before(s, v), model.before(s, v));
            case 22 -> due("common(" + s + ", " + h + ")", real.common(s, h), model.common(s, h));
            case 23 -> due("cost(" + s + ")", real.cost(s), model.cost(s));
            case 24 -> due("length(" + s + ", " + what + ")", real.length(s, what), model.length(s, what));
            default -> due("piece(" + s + ", " + h + ", " + what + ")", real.piece(s, h, what),
                model.piece(s, h, what));
        }
    }

    private void tape(int which) {
        int s = set();
        int kind = draw(0, 2);
        int i = draw(0, model.tape.length());
        switch (which) {
            case 28, 29 -> due("write(" + s + ", " + kind + ")", real.write(s, kind), model.write(s, kind));
            case 30, 31, 32 -> due("read(" + s + ", " + kind + ")", real.read(s, kind), model.read(s, kind));
            case 33, 34 -> due("ask(" + kind + ", " + i + ")", real.ask(kind, i), model.ask(kind, i));
            case 35 -> due("sign", real.sign(i % 2 == 0), model.sign(i % 2 == 0));
            case 36 -> due("cut(" + i + ")", real.cut(i), model.cut(i));
            case 37 -> due("flip(" + i + ")", real.flip(i), model.flip(i));
            case 38 -> due("bit(" + i + ")", real.bit(i), model.bit(i));
            default -> due("size()", real.size(), model.tape.length());
        }
    }

    /** Sets with PIECES of all FORMS; of their CODES one bit is turned, or two, and turned back. */
    private static void nearlyCodes(int seed) {
        for (int kind = 0; kind < 3; kind++) {
            ModelTest test = new ModelTest(seed);
            for (int i = 0; i < 100; i++) {
                int first = test.random.nextInt(1 + 32 * (1 + seed)) * (1 + seed % 3);
                int last = Math.min(4095, first + (i % 2 == 0 ? 0 : test.random.nextInt(1 + seed)));
                test.due("fill", test.real.fill(0, first, last), test.model.fill(0, first, last, true));
            }
            test.due("write", test.real.write(0, kind), test.model.write(0, kind));
            for (int i = 0; i < 40; i++) {
                int a = test.random.nextInt(Math.min(test.model.tape.length(), i % 2 == 0 ? 200 : 8210));
                int behind = Math.min(a + 1 + test.random.nextInt(9), test.model.tape.length() - 1);
                int b = test.random.nextInt(3) == 0 ? a : behind;
                test.real.flip(a);
                test.model.flip(a);
                test.due("read, bit " + a + " turned", test.real.read(1, kind), test.model.read(1, kind));
                test.real.flip(b);
                test.model.flip(b);
                test.due("read, bits " + a + ", " + b + " turned", test.real.read(2, kind), test.model.read(2, kind));
                test.due("ask", test.real.ask(kind, i), test.model.ask(kind, i));
                test.real.write(0, kind);
                test.model.write(0, kind);
            }
            test.sameSets();
        }
    }

    private void sameSets() {
        for (int set = 0; set < 8; set++) {
            for (int h = 0; h < 16; h++) {
                due("NUMBERS of PIECE " + h, real.piece(set, h, 1), model.piece(set, h, 1));
            }
        }
    }

    /** The tape of all NUMBERS, its n turned to another one and its end cut, is THE CODE of sets with many gaps. */
    private static void oneSetOnAnothersTape() {
        for (int n = 1; n < 2731; n += 91) {
            ModelTest test = new ModelTest(n);
            test.real.fill(0, 0, 4095);
            test.model.fill(0, 0, 4095, true);
            test.real.write(0, 0);
            test.model.write(0, 0);
            for (int i = 0; i < 13; i++) {
                if ((n >> (12 - i) & 1) != test.model.bit(i)) {
                    test.due("flip(" + i + ")", test.real.flip(i), test.model.flip(i));
                }
            }
            // Gaps of 1 and of 2 in turn: a 1, and 010.
            int size = 13 + n / 2 * 4 + n % 2;
            test.due("cut(" + size + ")", test.real.cut(size), test.model.cut(size));
            test.due("read(1, 1)", test.real.read(1, 1), test.model.read(1, 1));
            test.due("count(1)", test.real.count(1), n);
            for (int kind = 0; kind < 3; kind++) {
                test.due("length(1, " + kind + ")", test.real.length(1, kind), test.model.length(1, kind));
                test.due("write(1, " + kind + ")", test.real.write(1, kind), test.model.write(1, kind));
                test.due("read(2, " + kind + ")", test.real.read(2, kind), test.model.read(2, kind));
                test.due("common(1, 2)", test.real.common(1, 2), n);
                for (int i = 0; i < 40; i++) {
                    int at = test.random.nextInt(test.model.tape.length());
                    test.due("bit(" + at + ")", test.real.bit(at), test.model.bit(at));
                }
            }
        }
    }
}

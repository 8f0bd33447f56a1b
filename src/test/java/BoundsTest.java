import java.util.function.Supplier;
import java.util.function.ToIntFunction;

/**
 * Every call with its arguments at their bounds, just inside them, just outside and far outside, all of them
 * with all others: the answer, and all that is there behind it, are the model's.
 */
public final class BoundsTest {
    private static final Due DUE = new Due("BoundsTest");
    private static final int LEAST = Integer.MIN_VALUE;
    private static final int GREATEST = Integer.MAX_VALUE;
    private static final int[] SETS = {LEAST, -8, -1, 0, 1, 3, 4, 5, 6, 7, 8, 9, 15, 1 << 16, GREATEST};
    private static final int[] FEW_SETS = {LEAST, -1, 0, 1, 4, 6, 7, 8, GREATEST};
    private static final int[] NUMBERS = {LEAST, LEAST + 1, -4096, -256, -32, -1, 0, 1, 10, 11, 12, 31, 32, 33, 77, 255,
        256, 257, 4064, 4094, 4095, 4096, 4097, 4128, 8192, 1 << 16, GREATEST - 1, GREATEST};
    private static final int[] SMALL = {LEAST, -16, -4, -1, 0, 1, 2, 3, 4, 5, 14, 15, 16, 17, 1 << 16, GREATEST};
    private static final int[] PLACES = {LEAST, LEAST + 1, -8210, -32, -1, 0, 1, 2, 3, 20, 21, 22, 23, 31, 32, 33, 4094,
        4095, 4096, 4097, 8204, 8205, 8208, 8209, 8210, 8211, 8212, 1 << 16, GREATEST - 1, GREATEST};

    /** A state to begin with, made twice over: of the class and of the model. */
    private record Start(String name, Supplier<KeyRows> real, Supplier<Model> model) {
    }

    private static final Start[] STARTS = {
        new Start("new", KeyRows::new, Model::new),
        new Start("the sample", Sample::make, BoundsTest::model),
        new Start("a full TAPE", Sample::makeFull, BoundsTest::modelFull)};

    public static void main(String[] args) {
        for (Start start : STARTS) {
            changes(start);
            questions(start);
            tape(start);
        }
        DUE.end();
    }

    private static Model model() {
        Model model = new Model();
        int[][] spans = {{1, 0, 0}, {2, 4095, 4095}, {3, 3, 3}, {3, 31, 32}, {3, 255, 256}, {3, 4095, 4095},
            {4, 10, 12}, {5, 12, 14}, {6, 0, 4095}, {7, 77, 77}};
        for (int[] span : spans) {
            model.fill(span[0], span[1], span[2], true);
        }
        model.write(4, 1);
        return model;
    }

    private static Model modelFull() {
        Model model = model();
        model.tape = Sample.fullTape();
        return model;
    }

    private static void same(Start start, String call, ToIntFunction<KeyRows> real, ToIntFunction<Model> model) {
        KeyRows x = start.real.get();
        Model m = start.model.get();
        int want = model.applyAsInt(m);
        DUE.is(call + " of " + start.name, real.applyAsInt(x), want);
        DUE.same("what is there behind " + call + " of " + start.name, Sample.state(x), m.state());
    }

    private interface RealTwo {
        int on(KeyRows x, int a, int b);
    }

    private interface ModelTwo {
        int on(Model m, int a, int b);
    }

    private static void two(Start start, String call, int[] as, int[] bs, RealTwo real, ModelTwo model) {
        DUE.test(call + ", " + start.name, () -> {
            for (int a : as) {
                for (int b : bs) {
                    same(start, call + "(" + a + ", " + b + ")", x -> real.on(x, a, b), m -> model.on(m, a, b));
                }
            }
        });
    }

    private static void changes(Start start) {
        two(start, "put", SETS, NUMBERS, KeyRows::put, (m, s, v) -> m.fill(s, v, v, true));
        for (int first : NUMBERS) {
            two(start, "fill from " + first, SETS, NUMBERS, (x, s, v) -> x.fill(s, first, v),
                (m, s, v) -> m.fill(s, first, v, true));
            two(start, "drop from " + first, SETS, NUMBERS, (x, s, v) -> x.drop(s, first, v),
                (m, s, v) -> m.fill(s, first, v, false));
        }
        for (int to : FEW_SETS) {
            for (int kind : new int[] {LEAST, -1, 0, 1, 2, 3, 4, GREATEST}) {
                two(start, "join of kind " + kind + " to " + to, FEW_SETS, FEW_SETS,
                    (x, a, b) -> x.join(to, a, b, kind), (m, a, b) -> m.join(to, a, b, kind));
            }
        }
    }

    private static void questions(Start start) {
        two(start, "has", SETS, NUMBERS, KeyRows::has, Model::has);
        two(start, "count", SETS, new int[] {0}, (x, s, any) -> x.count(s), (m, s, any) -> m.count(s));
        two(start, "rank", SETS, NUMBERS, KeyRows::rank, Model::rank);
        two(start, "select", SETS, PLACES, KeyRows::select, Model::select);
        two(start, "next", SETS, NUMBERS, KeyRows::next, Model::next);
        two(start, "before", SETS, NUMBERS, KeyRows::before, Model::before);
        two(start, "common", SETS, SETS, KeyRows::common, Model::common);
        for (int what : SMALL) {
            two(start, "piece, what " + what, SETS, SMALL, (x, s, h) -> x.piece(s, h, what),
                (m, s, h) -> m.piece(s, h, what));
        }
        two(start, "cost", SETS, new int[] {0}, (x, s, any) -> x.cost(s), (m, s, any) -> m.cost(s));
        two(start, "length", SETS, SMALL, KeyRows::length, Model::length);
    }

    private static void tape(Start start) {
        two(start, "write", SETS, SMALL, KeyRows::write, Model::write);
        two(start, "read", SETS, SMALL, KeyRows::read, Model::read);
        two(start, "ask", SMALL, PLACES, KeyRows::ask, Model::ask);
        two(start, "sign", new int[] {0, 1}, new int[] {0}, (x, bit, any) -> x.sign(bit == 1),
            (m, bit, any) -> m.sign(bit == 1));
        two(start, "cut", PLACES, new int[] {0}, (x, n, any) -> x.cut(n), (m, n, any) -> m.cut(n));
        two(start, "flip", PLACES, new int[] {0}, (x, i, any) -> x.flip(i), (m, i, any) -> m.flip(i));
        two(start, "bit", PLACES, new int[] {0}, (x, i, any) -> x.bit(i), (m, i, any) -> m.bit(i));
        two(start, "size", new int[] {0}, new int[] {0}, (x, any, none) -> x.size(),
            (m, any, none) -> m.tape.length());
    }
}

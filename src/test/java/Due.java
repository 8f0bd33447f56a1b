import java.util.function.IntFunction;
import java.util.function.Supplier;
import java.util.function.ToIntFunction;

/** Gathers the tests of one class, each told by the sentence it holds KeyRows to, and the answers that are not due. */
final class Due {
    private static final int LINES_OF_A_TEST = 5;
    private static final long LONGEST_MILLIS = 2 * 60 * 1000;

    private final String name;
    private String sentence = "";
    private int tests = 0;
    private int asked = 0;
    private int wrong = 0;
    private int lines = 0;

    Due(String name) {
        this.name = name;
        Thread watch = new Thread(() -> stopIfEndless(name));
        watch.setDaemon(true);
        watch.start();
    }

    /** A call that never ends must fail its test, not keep it going. */
    private static void stopIfEndless(String name) {
        try {
            Thread.sleep(LONGEST_MILLIS);
        } catch (InterruptedException e) {
            return;
        }
        System.out.println(name + ": does not end");
        Runtime.getRuntime().halt(1);
    }

    /** No call of the face throws: whatever comes out of a test is a fault, and the next test still runs. */
    void test(String sentence, Runnable body) {
        this.sentence = sentence;
        tests++;
        lines = 0;
        int before = asked;
        try {
            body.run();
        } catch (RuntimeException | StackOverflowError e) {
            fault("threw " + e);
        }
        if (asked == before) {
            fault("asks nothing");
        }
        this.sentence = "";
    }

    void is(String call, long got, long want) {
        asked++;
        if (got != want) {
            fault(call + " answered " + got + ", due is " + want);
        }
    }

    void same(String what, Object got, Object want) {
        asked++;
        if (!got.equals(want)) {
            fault(what + " is " + got + ", due is " + want);
        }
    }

    /** A call on the sample that must answer so, and behind which nothing may have changed. */
    void stays(String call, ToIntFunction<KeyRows> made, int want) {
        KeyRows x = Sample.make();
        is(call, made.applyAsInt(x), want);
        same("what is there behind " + call, Sample.state(x), Sample.STATE);
    }

    /** The same for each of some arguments; the # of the call's text is where the argument stands. */
    void stays(String call, int[] arguments, IntFunction<ToIntFunction<KeyRows>> made, int want) {
        for (int argument : arguments) {
            stays(call.replace("#", "" + argument), made.apply(argument), want);
        }
    }

    /** An object answers 512 calls, so a long TAPE is asked for on several that are made alike. */
    void tape(String what, Supplier<KeyRows> maker, String want) {
        for (int from = 0; from == 0 || from < want.length(); from += 200) {
            KeyRows x = maker.get();
            is("size() of " + what, x.size(), want.length());
            for (int i = from; i < Math.min(from + 200, want.length()); i++) {
                is("bit(" + i + ") of " + what, x.bit(i), want.charAt(i) - '0');
            }
        }
    }

    private void fault(String text) {
        wrong++;
        lines++;
        // A broken promise may break thousands of rows; the first ones tell what it is.
        if (lines <= LINES_OF_A_TEST) {
            System.out.println(name + (sentence.isEmpty() ? "" : " [" + sentence + "]") + ": " + text);
        }
    }

    void end() {
        System.out.println(name + ": " + tests + " tests, " + asked + " answers, " + wrong + " not as due");
        if (wrong != 0 || asked == 0) {
            System.exit(1);
        }
    }

    /** THE TAPE as a text of 0s and 1s. */
    static String tape(KeyRows x) {
        StringBuilder text = new StringBuilder();
        int size = x.size();
        for (int i = 0; i < size; i++) {
            text.append(x.bit(i));
        }
        return text.toString();
    }

    /** Makes THE TAPE the 0s and 1s of a text; its blanks only part what is told. */
    static void tape(KeyRows x, String text) {
        x.cut(0);
        for (char c : text.toCharArray()) {
            if (c != ' ') {
                x.sign(c == '1');
            }
        }
    }

    /** A value in so many bits, the highest one first. */
    static String bits(int value, int width) {
        StringBuilder text = new StringBuilder();
        for (int i = width - 1; i >= 0; i--) {
            text.append(value >> i & 1);
        }
        return text.toString();
    }

    static String numbers(KeyRows x, int set) {
        StringBuilder text = new StringBuilder();
        int steps = 0;
        // The bound keeps a test from going on and on where next answers the same NUMBER again.
        for (int v = x.next(set, 0); v >= 0 && steps <= 4096; v = x.next(set, v + 1)) {
            text.append(v).append(' ');
            steps++;
        }
        return text.toString().trim();
    }
}

/** Gathers the calls of a test whose answer is not the one that is due. */
final class Due {
    private final String test;
    private int asked = 0;
    private int wrong = 0;

    Due(String test) {
        this.test = test;
    }

    void is(String call, long got, long want) {
        asked++;
        if (got != want) {
            wrong++;
            // A broken promise may break thousands of rows; the first ones tell what it is.
            if (wrong <= 20) {
                System.out.println(test + ": " + call + " answered " + got + ", due is " + want);
            }
        }
    }

    void same(String what, Object got, Object want) {
        asked++;
        if (!got.equals(want)) {
            wrong++;
            System.out.println(test + ": " + what + " is " + got + ", due is " + want);
        }
    }

    void end() {
        System.out.println(test + ": " + asked + " answers, " + wrong + " not as due");
        if (wrong != 0 || asked == 0) {
            System.exit(1);
        }
    }

    /** THE TAPE as a text of 0s and 1s. */
    static String tape(KeyRows x) {
        StringBuilder text = new StringBuilder();
        int size = x.size();
        for (int i = 0; i < size; i++) {
            text.append(x.bit(i));
        }
        return text.toString();
    }

    /** Makes THE TAPE the 0s and 1s of a text; its blanks only part what is told. */
    static void tape(KeyRows x, String text) {
        x.cut(0);
        for (char c : text.toCharArray()) {
            if (c != ' ') {
                x.sign(c == '1');
            }
        }
    }

    /** A value in so many bits, the highest one first. */
    static String bits(int value, int width) {
        StringBuilder text = new StringBuilder();
        for (int i = width - 1; i >= 0; i--) {
            text.append(value >> i & 1);
        }
        return text.toString();
    }

    static String numbers(KeyRows x, int set) {
        StringBuilder text = new StringBuilder();
        for (int v = x.next(set, 0); v >= 0; v = x.next(set, v + 1)) {
            text.append(v).append(' ');
        }
        return text.toString().trim();
    }
}

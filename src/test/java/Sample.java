import java.util.BitSet;
import java.util.stream.Collectors;

/** An object with SETS at the edges (none, the first, the last, all NUMBERS) and a TAPE that is a CODE. */
final class Sample {
    static final int[] NO_SETS = {-1, 8, -8, 9, 15, 16, 256, 1 << 16, Integer.MIN_VALUE, Integer.MAX_VALUE};
    static final int[] NO_NUMBERS =
        {-1, 4096, -4096, 4097, 8191, 8192, 1 << 16, Integer.MIN_VALUE, Integer.MAX_VALUE};
    static final int[] NO_BORDERS =
        {-1, 4097, -4096, 4098, 8191, 8192, 1 << 16, Integer.MIN_VALUE, Integer.MAX_VALUE};
    static final int[] NO_KINDS = {-1, 3, -3, 4, 6, 256, 1 << 16, Integer.MIN_VALUE, Integer.MAX_VALUE};
    static final int[] NO_WAYS = {-1, 4, -4, 5, 7, 8, 256, 1 << 16, Integer.MIN_VALUE, Integer.MAX_VALUE};
    static final int[] NO_PIECES = {-1, 16, -16, 17, 31, 32, 256, 1 << 16, Integer.MIN_VALUE, Integer.MAX_VALUE};

    /** The TAPE is THE CODE, of the KIND GAPS, of SET 4. */
    static final String TAPE = "0000000000011" + "0001011" + "1" + "1";
    static final String STATE_OF_SETS = "0: \n1: 0\n2: 4095\n3: 3 31 32 255 256 4095\n4: 10 11 12\n5: 12 13 14\n"
        + "6: 4096 = 256 256 256 256 256 256 256 256 256 256 256 256 256 256 256 256\n7: 77\n";
    static final String STATE = STATE_OF_SETS + TAPE;

    private static final int FEW_NUMBERS = 12;
    private static final int FEW_BITS = 60;

    private Sample() {
    }

    static KeyRows make() {
        KeyRows x = new KeyRows();
        x.put(1, 0);
        x.put(2, 4095);
        for (int v : new int[] {3, 31, 32, 255, 256, 4095}) {
            x.put(3, v);
        }
        x.fill(4, 10, 12);
        x.fill(5, 12, 14);
        x.fill(6, 0, 4095);
        x.put(7, 77);
        x.write(4, 1);
        return x;
    }

    /** The sample with a TAPE that has no room: THE CODE of all NUMBERS and five bits. */
    static KeyRows makeFull() {
        KeyRows x = make();
        x.write(6, 0);
        for (int i = 0; i < 5; i++) {
            x.sign(i % 2 == 0);
        }
        return x;
    }

    static String fullTape() {
        return Due.bits(4096, 13) + "10".repeat(4096) + "10101";
    }

    /** All that there is, in so few calls that an object has some left. */
    static String state(KeyRows x) {
        return setsOf(x) + tapeOf(x);
    }

    static String setsOf(KeyRows x) {
        StringBuilder text = new StringBuilder();
        for (int set = 0; set < 8; set++) {
            text.append(set).append(": ").append(numbersOf(x, set)).append('\n');
        }
        return text.toString();
    }

    private static String numbersOf(KeyRows x, int set) {
        int n = x.count(set);
        StringBuilder text = new StringBuilder();
        if (n > FEW_NUMBERS) {
            text.append(n).append(" =");
            for (int h = 0; h < 16; h++) {
                text.append(' ').append(x.piece(set, h, 1));
            }
            return text.toString();
        }
        int v = x.next(set, 0);
        for (int k = 0; k <= FEW_NUMBERS && v >= 0; k++) {
            text.append(text.length() == 0 ? "" : " ").append(v);
            v = x.next(set, v + 1);
        }
        return text.toString();
    }

    private static String tapeOf(KeyRows x) {
        int size = x.size();
        StringBuilder text = new StringBuilder(size > FEW_BITS ? size + " = " : "");
        for (int i = 0; i < Math.min(size, FEW_BITS); i++) {
            text.append(x.bit(size > FEW_BITS && i >= FEW_BITS / 2 ? size - FEW_BITS + i : i));
        }
        return text.toString();
    }

    /** The same texts of what the model has. */
    static String text(BitSet numbers) {
        int n = numbers.cardinality();
        if (n <= FEW_NUMBERS) {
            return numbers.stream().mapToObj(v -> "" + v).collect(Collectors.joining(" "));
        }
        StringBuilder text = new StringBuilder(n + " =");
        for (int h = 0; h < 16; h++) {
            text.append(' ').append(numbers.get(256 * h, 256 * h + 256).cardinality());
        }
        return text.toString();
    }

    static String text(String tape) {
        int size = tape.length();
        return size <= FEW_BITS ? tape
            : size + " = " + tape.substring(0, FEW_BITS / 2) + tape.substring(size - FEW_BITS / 2);
    }
}

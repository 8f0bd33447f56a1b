import java.util.ArrayList;
import java.util.BitSet;
import java.util.List;

/**
 * The document in its plainest form, to be compared with the class: SETS as rows of bits, THE TAPE and
 * THE CODES as texts. It knows THE CODE of a SET only by writing it: what a tape seems to tell is
 * written again, and must be the tape.
 */
final class Model {
    final BitSet[] sets = new BitSet[8];
    String tape = "";

    Model() {
        for (int i = 0; i < 8; i++) {
            sets[i] = new BitSet();
        }
    }

    static boolean in(int v, int least, int greatest) {
        return v >= least && v <= greatest;
    }

    int fill(int set, int first, int last, boolean present) {
        if (!in(set, 0, 7)) {
            return -2;
        }
        if (!in(first, 0, 4095) || !in(last, 0, 4095) || first > last) {
            return -3;
        }
        int held = sets[set].cardinality();
        sets[set].set(first, last + 1, present);
        return Math.abs(sets[set].cardinality() - held);
    }

    int join(int to, int a, int b, int kind) {
        if (!in(to, 0, 7) || !in(a, 0, 7) || !in(b, 0, 7)) {
            return -2;
        }
        if (!in(kind, 0, 3)) {
            return -3;
        }
        BitSet made = new BitSet();
        for (int v = 0; v < 4096; v++) {
            boolean inA = sets[a].get(v);
            boolean inB = sets[b].get(v);
            made.set(v, kind == 0 ? inA && inB : kind == 1 ? inA || inB : kind == 2 ? inA && !inB : inA != inB);
        }
        sets[to] = made;
        return made.cardinality();
    }

    int has(int set, int v) {
        return !in(set, 0, 7) ? -2 : !in(v, 0, 4095) ? -3 : sets[set].get(v) ? 1 : 0;
    }

    int count(int set) {
        return !in(set, 0, 7) ? -2 : sets[set].cardinality();
    }

    int rank(int set, int v) {
        return !in(set, 0, 7) ? -2 : !in(v, 0, 4096) ? -3 : sets[set].get(0, v).cardinality();
    }

    int select(int set, int k) {
        return !in(set, 0, 7) ? -2 : nth(sets[set], k);
    }

    int next(int set, int v) {
        return !in(set, 0, 7) ? -2 : !in(v, 0, 4096) ? -3 : sets[set].nextSetBit(v);
    }

    int before(int set, int v) {
        return !in(set, 0, 7) ? -2 : !in(v, 0, 4096) ? -3 : v == 0 ? -1 : sets[set].previousSetBit(v - 1);
    }

    int common(int a, int b) {
        if (!in(a, 0, 7) || !in(b, 0, 7)) {
            return -2;
        }
        BitSet both = (BitSet) sets[a].clone();
        both.and(sets[b]);
        return both.cardinality();
    }

    int piece(int set, int h, int what) {
        if (!in(set, 0, 7)) {
            return -2;
        }
        if (!in(h, 0, 15) || !in(what, 0, 3)) {
            return -3;
        }
        return describe(sets[set], h)[what];
    }

    int cost(int set) {
        if (!in(set, 0, 7)) {
            return -2;
        }
        int sum = 0;
        for (int h = 0; h < 16; h++) {
            int[] all = describe(sets[set], h);
            sum += all[1] > 0 ? 16 + all[3] : 0;
        }
        return sum;
    }

    int length(int set, int kind) {
        return !in(set, 0, 7) ? -2 : !in(kind, 0, 2) ? -3 : code(sets[set], kind).length();
    }

    int write(int set, int kind) {
        int length = length(set, kind);
        if (length >= 0) {
            tape = code(sets[set], kind);
        }
        return length;
    }

    int read(int set, int kind) {
        if (!in(set, 0, 7)) {
            return -2;
        }
        if (!in(kind, 0, 2)) {
            return -3;
        }
        BitSet told = told(kind);
        if (told == null) {
            return -1;
        }
        sets[set] = told;
        return told.cardinality();
    }

    int ask(int kind, int k) {
        if (!in(kind, 0, 2)) {
            return -3;
        }
        BitSet told = told(kind);
        return told == null ? -1 : nth(told, k);
    }

    int sign(boolean bit) {
        if (tape.length() == 8210) {
            return -4;
        }
        tape += bit ? "1" : "0";
        return tape.length();
    }

    int cut(int n) {
        if (!in(n, 0, tape.length())) {
            return -3;
        }
        int went = tape.length() - n;
        tape = tape.substring(0, n);
        return went;
    }

    int flip(int i) {
        int was = bit(i);
        if (was >= 0) {
            tape = tape.substring(0, i) + (1 - was) + tape.substring(i + 1);
        }
        return was < 0 ? -1 : 1 - was;
    }

    int bit(int i) {
        return in(i, 0, tape.length() - 1) ? tape.charAt(i) - '0' : -1;
    }

    /** All that there is, in the form of the sample's. */
    String state() {
        StringBuilder text = new StringBuilder();
        for (int set = 0; set < 8; set++) {
            text.append(set).append(": ").append(Sample.text(sets[set])).append('\n');
        }
        return text.append(Sample.text(tape)).toString();
    }

    private static int nth(BitSet set, int k) {
        int[] all = set.stream().toArray();
        return in(k, 0, all.length - 1) ? all[k] : -1;
    }

    /** FORM, NUMBERS, RUNS, bits. */
    private static int[] describe(BitSet set, int h) {
        int n = 0;
        int r = 0;
        for (int i = 0; i < 256; i++) {
            boolean here = set.get(256 * h + i);
            n += here ? 1 : 0;
            r += here && (i == 0 || !set.get(256 * h + i - 1)) ? 1 : 0;
        }
        int[] takes = {8 * n, 256, 16 * r};
        int form = 0;
        for (int f = 1; f < 3; f++) {
            form = takes[f] < takes[form] ? f : form;
        }
        return n == 0 ? new int[] {-1, 0, 0, 0} : new int[] {form, n, r, takes[form]};
    }

    static String code(BitSet set, int kind) {
        return kind == 0 ? twoParts(set) : kind == 1 ? gaps(set) : pieces(set);
    }

    private static int lowBits(int n) {
        int l = 0;
        for (int i = 0; i <= 12; i++) {
            l = n * (1 << i) <= 4096 ? i : l;
        }
        return l;
    }

    private static String twoParts(BitSet set) {
        int n = set.cardinality();
        StringBuilder text = new StringBuilder(Due.bits(n, 13));
        if (n == 0) {
            return text.toString();
        }
        int l = lowBits(n);
        set.stream().forEach(v -> text.append(Due.bits(v, l)));
        for (int q = 0; q <= 4095 / (1 << l); q++) {
            text.append("1".repeat(set.get(q << l, (q + 1) << l).cardinality())).append('0');
        }
        return text.toString();
    }

    private static String gaps(BitSet set) {
        StringBuilder text = new StringBuilder(Due.bits(set.cardinality(), 13));
        int ahead = -1;
        for (int v : set.stream().toArray()) {
            String gap = Integer.toBinaryString(v - ahead);
            text.append("0".repeat(gap.length() - 1)).append(gap);
            ahead = v;
        }
        return text.toString();
    }

    private static String pieces(BitSet set) {
        StringBuilder text = new StringBuilder();
        for (int h = 0; h < 16; h++) {
            int[] all = describe(set, h);
            BitSet piece = set.get(256 * h, 256 * h + 256);
            text.append(Due.bits(all[0] < 0 ? 3 : all[0], 2));
            if (all[0] == 0) {
                text.append(Due.bits(all[1] - 1, 8));
                piece.stream().forEach(v -> text.append(Due.bits(v, 8)));
            } else if (all[0] == 1) {
                for (int i = 0; i < 256; i++) {
                    text.append(piece.get(i) ? '1' : '0');
                }
            } else if (all[0] == 2) {
                text.append(Due.bits(all[2] - 1, 8));
                for (int first = piece.nextSetBit(0); first >= 0; ) {
                    int end = piece.nextClearBit(first);
                    text.append(Due.bits(first, 8)).append(Due.bits(end - first - 1, 8));
                    first = piece.nextSetBit(end);
                }
            }
        }
        return text.toString();
    }

    private BitSet told(int kind) {
        BitSet seems = new BitSet();
        try {
            if (kind == 0) {
                seemsTwoParts(seems);
            } else if (kind == 1) {
                seemsGaps(seems);
            } else {
                seemsPieces(seems);
            }
        } catch (StringIndexOutOfBoundsException e) {
            return null;
        }
        return seems.length() <= 4096 && code(seems, kind).equals(tape) ? seems : null;
    }

    private int value(int from, int width) {
        String text = tape.substring(from, from + width);
        return width == 0 ? 0 : Integer.parseInt(text, 2);
    }

    private void seemsTwoParts(BitSet seems) {
        int n = value(0, 13);
        int l = lowBits(n);
        List<Integer> highs = new ArrayList<>();
        int q = 0;
        for (int i = 13 + n * l; highs.size() < n; i++) {
            if (tape.charAt(i) == '1') {
                highs.add(q);
            } else {
                q++;
            }
        }
        for (int k = 0; k < n; k++) {
            seems.set((highs.get(k) << l) + value(13 + k * l, l));
        }
    }

    private void seemsGaps(BitSet seems) {
        int n = value(0, 13);
        int at = 13;
        int v = -1;
        for (int k = 0; k < n && v < 4096; k++) {
            int zeros = 0;
            while (tape.charAt(at + zeros) == '0') {
                zeros++;
            }
            v += zeros > 12 ? 8192 : value(at + zeros, zeros + 1);
            seems.set(v);
            at += 2 * zeros + 1;
        }
    }

    private void seemsPieces(BitSet seems) {
        int at = 0;
        for (int h = 0; h < 16; h++) {
            int form = value(at, 2);
            at += 2;
            if (form == 1) {
                for (int i = 0; i < 256; i++) {
                    seems.set(256 * h + i, tape.charAt(at + i) == '1');
                }
                at += 256;
            } else if (form != 3) {
                int many = value(at, 8) + 1;
                at += 8;
                for (int k = 0; k < many; k++) {
                    int first = 256 * h + value(at, 8);
                    seems.set(first, first + 1 + (form == 0 ? 0 : value(at + 8, 8)));
                    at += form == 0 ? 8 : 16;
                }
            }
        }
    }
}

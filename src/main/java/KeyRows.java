/** Sets of numbers that are kept small, and three codes for a whole set on a tape of bits. */
public final class KeyRows {
    public static final int NONE = -1, UNKNOWN = -2, OUTSIDE = -3, ROOM = -4;

    private static final int SETS = 8;
    private static final int NUMBERS = 4096;
    private static final int PIECES = 16;
    private static final int PIECE_NUMBERS = 256;
    private static final int TAPE_BITS = 8210;
    private static final int KINDS = 3;
    private static final int WAYS_TO_JOIN = 4;

    private static final int WORD_BITS = 32;
    private static final int SET_WORDS = NUMBERS / WORD_BITS;
    private static final int PIECE_WORDS = PIECE_NUMBERS / WORD_BITS;
    private static final int TAPE_WORDS = (TAPE_BITS + WORD_BITS - 1) / WORD_BITS;

    private static final int LIST = 0, BITS = 1, RUNS = 2;
    private static final int LIST_ITEM_BITS = 8, RUN_ITEM_BITS = 16, PIECE_HEAD_BITS = 16;

    private static final int AMOUNT_BITS = 13;
    private static final int FORM_BITS = 2;
    private static final int FORM_OF_NONE = 3;
    private static final int BYTE_BITS = 8;

    private final Numbers[] sets = new Numbers[SETS];
    private final Code[] codes = new Code[KINDS];
    private final Tape tape = new Tape();
    // What a tape tells is gathered here first, so that a tape that tells no SET changes none.
    private final Numbers told = new Numbers();

    public KeyRows() {
        for (int i = 0; i < SETS; i++) {
            sets[i] = new Numbers();
        }
        codes[0] = new TwoParts();
        codes[1] = new Gaps();
        codes[2] = new Pieces();
    }

    public int put(int set, int v) {
        if (!isSet(set)) {
            return UNKNOWN;
        }
        if (!isNumber(v)) {
            return OUTSIDE;
        }
        if (sets[set].holds(v)) {
            return 0;
        }
        sets[set].add(v);
        return 1;
    }

    public int fill(int set, int first, int last) {
        if (!isSet(set)) {
            return UNKNOWN;
        }
        if (!isSpan(first, last)) {
            return OUTSIDE;
        }
        int missing = last - first + 1 - sets[set].amountIn(first, last);
        sets[set].include(first, last);
        return missing;
    }

    public int drop(int set, int first, int last) {
        if (!isSet(set)) {
            return UNKNOWN;
        }
        if (!isSpan(first, last)) {
            return OUTSIDE;
        }
        int present = sets[set].amountIn(first, last);
        sets[set].exclude(first, last);
        return present;
    }

    public int join(int to, int a, int b, int kind) {
        if (!isSet(to) || !isSet(a) || !isSet(b)) {
            return UNKNOWN;
        }
        if (kind < 0 || kind >= WAYS_TO_JOIN) {
            return OUTSIDE;
        }
        sets[to].become(sets[a], sets[b], kind);
        return sets[to].amount();
    }

    // ---- asked

    public int has(int set, int v) {
        if (!isSet(set)) {
            return UNKNOWN;
        }
        if (!isNumber(v)) {
            return OUTSIDE;
        }
        return sets[set].holds(v) ? 1 : 0;
    }

    public int count(int set) {
        if (!isSet(set)) {
            return UNKNOWN;
        }
        return sets[set].amount();
    }

    public int rank(int set, int v) {
        if (!isSet(set)) {
            return UNKNOWN;
        }
        if (!isBorder(v)) {
            return OUTSIDE;
        }
        return sets[set].amountBelow(v);
    }

    public int select(int set, int k) {
        if (!isSet(set)) {
            return UNKNOWN;
        }
        return sets[set].nth(k);
    }

    public int next(int set, int v) {
        if (!isSet(set)) {
            return UNKNOWN;
        }
        if (!isBorder(v)) {
            return OUTSIDE;
        }
        return sets[set].leastFrom(v);
    }

    public int before(int set, int v) {
        if (!isSet(set)) {
            return UNKNOWN;
        }
        if (!isBorder(v)) {
            return OUTSIDE;
        }
        return sets[set].nth(sets[set].amountBelow(v) - 1);
    }

    public int common(int a, int b) {
        if (!isSet(a) || !isSet(b)) {
            return UNKNOWN;
        }
        return sets[a].amountShared(sets[b]);
    }

    public int piece(int set, int h, int what) {
        if (!isSet(set)) {
            return UNKNOWN;
        }
        if (h < 0 || h >= PIECES) {
            return OUTSIDE;
        }
        switch (what) {
            case 0:
                return sets[set].pieceForm(h);
            case 1:
                return sets[set].pieceAmount(h);
            case 2:
                return sets[set].pieceRuns(h);
            case 3:
                return sets[set].pieceBits(h);
            default:
                return OUTSIDE;
        }
    }

    public int cost(int set) {
        if (!isSet(set)) {
            return UNKNOWN;
        }
        int bits = 0;
        for (int h = 0; h < PIECES; h++) {
            if (sets[set].pieceAmount(h) > 0) {
                bits += PIECE_HEAD_BITS + sets[set].pieceBits(h);
            }
        }
        return bits;
    }

    public int length(int set, int kind) {
        if (!isSet(set)) {
            return UNKNOWN;
        }
        if (!isKind(kind)) {
            return OUTSIDE;
        }
        return codes[kind].bitsFor(sets[set]);
    }

    // ---- the tape

    public int write(int set, int kind) {
        if (!isSet(set)) {
            return UNKNOWN;
        }
        if (!isKind(kind)) {
            return OUTSIDE;
        }
        tape.keepFirst(0);
        codes[kind].tell(sets[set], tape);
        return tape.held();
    }

    public int read(int set, int kind) {
        if (!isSet(set)) {
            return UNKNOWN;
        }
        if (!isKind(kind)) {
            return OUTSIDE;
        }
        if (!codes[kind].learn(tape, told)) {
            return NONE;
        }
        sets[set].copyFrom(told);
        return told.amount();
    }

    public int ask(int kind, int k) {
        if (!isKind(kind)) {
            return OUTSIDE;
        }
        if (!codes[kind].learn(tape, told)) {
            return NONE;
        }
        return told.nth(k);
    }

    public int sign(boolean bit) {
        if (tape.held() >= TAPE_BITS) {
            return ROOM;
        }
        tape.append(bit ? 1 : 0, 1);
        return tape.held();
    }

    public int cut(int n) {
        int held = tape.held();
        if (n < 0 || n > held) {
            return OUTSIDE;
        }
        tape.keepFirst(n);
        return held - n;
    }

    public int flip(int i) {
        if (!tape.reaches(i)) {
            return NONE;
        }
        tape.turn(i);
        return tape.bitAt(i);
    }

    public int bit(int i) {
        return tape.reaches(i) ? tape.bitAt(i) : NONE;
    }

    public int size() {
        return tape.held();
    }

    private static boolean isSet(int set) {
        return set >= 0 && set < SETS;
    }

    private static boolean isNumber(int v) {
        return v >= 0 && v < NUMBERS;
    }

    private static boolean isBorder(int v) {
        return v >= 0 && v <= NUMBERS;
    }

    private static boolean isSpan(int first, int last) {
        return first >= 0 && first <= last && last < NUMBERS;
    }

    private static boolean isKind(int kind) {
        return kind >= 0 && kind < KINDS;
    }

    /** One SET, a bit for each NUMBER: what is asked of it is then counted a word at a time. */
    private static final class Numbers {
        private final int[] words = new int[SET_WORDS];

        boolean holds(int v) {
            return isNumber(v) && (words[v >> 5] >>> (v & 31) & 1) == 1;
        }

        int amount() {
            return amountBelow(NUMBERS);
        }

        int amountIn(int first, int last) {
            return amountBelow(last + 1) - amountBelow(first);
        }

        int amountBelow(int v) {
            if (!isBorder(v)) {
                return 0;
            }
            int full = v >> 5;
            int sum = 0;
            for (int w = 0; w < full; w++) {
                sum += Integer.bitCount(words[w]);
            }
            // v = NUMBERS has no word of its own.
            if (full < SET_WORDS) {
                sum += Integer.bitCount(words[full] & ~(-1 << (v & 31)));
            }
            return sum;
        }

        int amountShared(Numbers other) {
            int sum = 0;
            for (int w = 0; w < SET_WORDS; w++) {
                sum += Integer.bitCount(words[w] & other.words[w]);
            }
            return sum;
        }

        int nth(int k) {
            if (k < 0) {
                return NONE;
            }
            int ahead = 0;
            for (int w = 0; w < SET_WORDS; w++) {
                int here = Integer.bitCount(words[w]);
                if (k - ahead < here) {
                    return w * WORD_BITS + nthOne(words[w], k - ahead);
                }
                ahead += here;
            }
            return NONE;
        }

        int leastFrom(int v) {
            if (!isNumber(v)) {
                return NONE;
            }
            int mask = -1 << (v & 31);
            for (int w = v >> 5; w < SET_WORDS; w++) {
                int rest = words[w] & mask;
                if (rest != 0) {
                    return w * WORD_BITS + nthOne(rest, 0);
                }
                mask = -1;
            }
            return NONE;
        }

        void add(int v) {
            if (isNumber(v)) {
                words[v >> 5] |= 1 << (v & 31);
            }
        }

        void include(int first, int last) {
            if (!isSpan(first, last)) {
                return;
            }
            for (int w = first >> 5; w <= last >> 5; w++) {
                words[w] |= maskInWord(w, first, last);
            }
        }

        void exclude(int first, int last) {
            if (!isSpan(first, last)) {
                return;
            }
            for (int w = first >> 5; w <= last >> 5; w++) {
                words[w] &= ~maskInWord(w, first, last);
            }
        }

        /** This may be a or b itself: each word is read before it is written, and never again. */
        void become(Numbers a, Numbers b, int way) {
            for (int w = 0; w < SET_WORDS; w++) {
                words[w] = joined(a.words[w], b.words[w], way);
            }
        }

        void copyFrom(Numbers other) {
            for (int w = 0; w < SET_WORDS; w++) {
                words[w] = other.words[w];
            }
        }

        void clear() {
            for (int w = 0; w < SET_WORDS; w++) {
                words[w] = 0;
            }
        }

        int pieceAmount(int h) {
            if (h < 0 || h >= PIECES) {
                return 0;
            }
            int sum = 0;
            for (int w = h * PIECE_WORDS; w < (h + 1) * PIECE_WORDS; w++) {
                sum += Integer.bitCount(words[w]);
            }
            return sum;
        }

        int pieceRuns(int h) {
            if (h < 0 || h >= PIECES) {
                return 0;
            }
            int runs = 0;
            // A RUN ends with its PIECE, so nothing is carried in from the PIECE ahead.
            int carried = 0;
            for (int w = h * PIECE_WORDS; w < (h + 1) * PIECE_WORDS; w++) {
                int firsts = words[w] & ~(words[w] << 1 | carried);
                runs += Integer.bitCount(firsts);
                carried = words[w] >>> 31;
            }
            return runs;
        }

        int pieceForm(int h) {
            int amount = pieceAmount(h);
            if (amount == 0) {
                return NONE;
            }
            int listBits = LIST_ITEM_BITS * amount;
            int runBits = RUN_ITEM_BITS * pieceRuns(h);
            if (listBits <= PIECE_NUMBERS && listBits <= runBits) {
                return LIST;
            }
            return PIECE_NUMBERS <= runBits ? BITS : RUNS;
        }

        int pieceBits(int h) {
            switch (pieceForm(h)) {
                case LIST:
                    return LIST_ITEM_BITS * pieceAmount(h);
                case BITS:
                    return PIECE_NUMBERS;
                case RUNS:
                    return RUN_ITEM_BITS * pieceRuns(h);
                default:
                    return 0;
            }
        }

        private static int joined(int a, int b, int way) {
            switch (way) {
                case 0:
                    return a & b;
                case 1:
                    return a | b;
                case 2:
                    return a & ~b;
                default:
                    return a ^ b;
            }
        }

        private static int maskInWord(int w, int first, int last) {
            int mask = -1;
            if (w == first >> 5) {
                mask &= -1 << (first & 31);
            }
            if (w == last >> 5) {
                mask &= -1 >>> (31 - (last & 31));
            }
            return mask;
        }

        /** Where the k-th 1 of a word is, from its lowest bit on. */
        private static int nthOne(int word, int k) {
            int rest = word;
            for (int i = 0; i < k; i++) {
                rest &= rest - 1;
            }
            return Integer.bitCount((rest & -rest) - 1);
        }
    }

    /** THE TAPE, with a place from which it is read. */
    private static final class Tape {
        private final int[] words = new int[TAPE_WORDS];
        private int held = 0;
        private int place = 0;

        int held() {
            return held;
        }

        boolean reaches(int i) {
            return i >= 0 && i < held;
        }

        /** Past the end 0s are read: a reader sees by the place it comes to that they were none. */
        int bitAt(int i) {
            return reaches(i) ? words[i >> 5] >>> (i & 31) & 1 : 0;
        }

        void turn(int i) {
            if (reaches(i)) {
                words[i >> 5] ^= 1 << (i & 31);
            }
        }

        void keepFirst(int n) {
            if (n >= 0 && n <= held) {
                held = n;
            }
        }

        /** So many bits of a value, the highest one first; those beyond the room are left out. */
        void append(int value, int bits) {
            for (int i = bits - 1; i >= 0 && held < TAPE_BITS; i--) {
                int one = 1 << (held & 31);
                if ((value >>> i & 1) == 1) {
                    words[held >> 5] |= one;
                } else {
                    words[held >> 5] &= ~one;
                }
                held++;
            }
        }

        int valueAt(int from, int bits) {
            int value = 0;
            for (int i = 0; i < bits; i++) {
                value = value << 1 | bitAt(from + i);
            }
            return value;
        }

        void rewind() {
            place = 0;
        }

        int take(int bits) {
            int value = valueAt(place, bits);
            place += bits;
            return value;
        }

        boolean isReadToItsEnd() {
            return place == held;
        }
    }

    /** THE CODE of one KIND. */
    private abstract static class Code {
        abstract int bitsFor(Numbers set);

        /** Puts THE CODE of a SET behind the tape. */
        abstract void tell(Numbers set, Tape tape);

        /** Whether the whole tape is THE CODE of a SET, which is then in told; if not, told is of no use. */
        abstract boolean learn(Tape tape, Numbers told);
    }

    private static final class TwoParts extends Code {
        int bitsFor(Numbers set) {
            return bitsForAmount(set.amount());
        }

        void tell(Numbers set, Tape tape) {
            int n = set.amount();
            tape.append(n, AMOUNT_BITS);
            if (n > 0) {
                tellLowParts(set, n, tape);
                tellHighParts(set, n, tape);
            }
        }

        boolean learn(Tape tape, Numbers told) {
            told.clear();
            int n = tape.valueAt(0, AMOUNT_BITS);
            if (n > NUMBERS || tape.held() != bitsForAmount(n)) {
                return false;
            }
            int low = lowBits(n);
            int known = 0;
            int high = 0;
            int ahead = -1;
            for (int i = AMOUNT_BITS + n * low; i < tape.held(); i++) {
                if (tape.bitAt(i) == 0) {
                    high++;
                    continue;
                }
                int v = (high << low) + tape.valueAt(AMOUNT_BITS + known * low, low);
                if (known == n || v <= ahead || v >= NUMBERS) {
                    return false;
                }
                told.add(v);
                ahead = v;
                known++;
            }
            return known == n;
        }

        private static void tellLowParts(Numbers set, int n, Tape tape) {
            int low = lowBits(n);
            int v = -1;
            for (int k = 0; k < n; k++) {
                v = set.leastFrom(v + 1);
                tape.append(v, low);
            }
        }

        private static void tellHighParts(Numbers set, int n, Tape tape) {
            int low = lowBits(n);
            int high = 0;
            int v = -1;
            for (int k = 0; k < n; k++) {
                v = set.leastFrom(v + 1);
                for (; high < v >> low; high++) {
                    tape.append(0, 1);
                }
                tape.append(1, 1);
            }
            for (; high < highParts(low); high++) {
                tape.append(0, 1);
            }
        }

        private static int bitsForAmount(int n) {
            if (n == 0) {
                return AMOUNT_BITS;
            }
            int low = lowBits(n);
            return AMOUNT_BITS + n * low + n + highParts(low);
        }

        /** The document's l; with no NUMBERS it has no meaning, and the bound ends the loop. */
        private static int lowBits(int n) {
            int low = 0;
            while (low < AMOUNT_BITS - 1 && n << (low + 1) <= NUMBERS) {
                low++;
            }
            return low;
        }

        private static int highParts(int low) {
            return ((NUMBERS - 1) >> low) + 1;
        }
    }

    private static final class Gaps extends Code {
        int bitsFor(Numbers set) {
            int n = set.amount();
            int bits = AMOUNT_BITS;
            int ahead = -1;
            for (int k = 0; k < n; k++) {
                int v = set.leastFrom(ahead + 1);
                bits += 2 * widthOf(v - ahead) - 1;
                ahead = v;
            }
            return bits;
        }

        void tell(Numbers set, Tape tape) {
            int n = set.amount();
            tape.append(n, AMOUNT_BITS);
            int ahead = -1;
            for (int k = 0; k < n; k++) {
                int v = set.leastFrom(ahead + 1);
                int width = widthOf(v - ahead);
                tape.append(0, width - 1);
                tape.append(v - ahead, width);
                ahead = v;
            }
        }

        boolean learn(Tape tape, Numbers told) {
            told.clear();
            tape.rewind();
            int n = tape.take(AMOUNT_BITS);
            if (n > NUMBERS) {
                return false;
            }
            int v = -1;
            for (int k = 0; k < n; k++) {
                int zeros = takeZeros(tape);
                v += (1 << zeros) + tape.take(zeros);
                if (v >= NUMBERS) {
                    return false;
                }
                told.add(v);
            }
            return tape.isReadToItsEnd();
        }

        /** Takes the 1 behind the 0s too; so many 0s as no gap has are enough to know that it is none. */
        private static int takeZeros(Tape tape) {
            int zeros = 0;
            while (zeros < AMOUNT_BITS && tape.take(1) == 0) {
                zeros++;
            }
            return zeros;
        }

        private static int widthOf(int gap) {
            int width = 1;
            while (width < AMOUNT_BITS && gap >> width != 0) {
                width++;
            }
            return width;
        }
    }

    private static final class Pieces extends Code {
        int bitsFor(Numbers set) {
            int bits = 0;
            for (int h = 0; h < PIECES; h++) {
                int form = set.pieceForm(h);
                boolean tellsHowMany = form == LIST || form == RUNS;
                bits += FORM_BITS + set.pieceBits(h) + (tellsHowMany ? BYTE_BITS : 0);
            }
            return bits;
        }

        void tell(Numbers set, Tape tape) {
            for (int h = 0; h < PIECES; h++) {
                int form = set.pieceForm(h);
                tape.append(form == NONE ? FORM_OF_NONE : form, FORM_BITS);
                int base = h * PIECE_NUMBERS;
                if (form == LIST) {
                    tellList(set, base, set.pieceAmount(h), tape);
                } else if (form == BITS) {
                    tellBits(set, base, tape);
                } else if (form == RUNS) {
                    tellRuns(set, base, set.pieceRuns(h), tape);
                }
            }
        }

        boolean learn(Tape tape, Numbers told) {
            told.clear();
            tape.rewind();
            for (int h = 0; h < PIECES; h++) {
                int form = tape.take(FORM_BITS);
                int base = h * PIECE_NUMBERS;
                boolean inOrder = true;
                if (form == LIST) {
                    inOrder = learnList(tape, told, base);
                } else if (form == BITS) {
                    learnBits(tape, told, base);
                } else if (form == RUNS) {
                    inOrder = learnRuns(tape, told, base);
                }
                // A PIECE that another FORM would hold in fewer bits is in no SET's CODE.
                int due = told.pieceForm(h);
                if (!inOrder || form != (due == NONE ? FORM_OF_NONE : due)) {
                    return false;
                }
            }
            return tape.isReadToItsEnd();
        }

        private static void tellList(Numbers set, int base, int n, Tape tape) {
            tape.append(n - 1, BYTE_BITS);
            int v = base - 1;
            for (int k = 0; k < n; k++) {
                v = set.leastFrom(v + 1);
                tape.append(v, BYTE_BITS);
            }
        }

        private static void tellBits(Numbers set, int base, Tape tape) {
            for (int i = 0; i < PIECE_NUMBERS; i++) {
                tape.append(set.holds(base + i) ? 1 : 0, 1);
            }
        }

        private static void tellRuns(Numbers set, int base, int runs, Tape tape) {
            tape.append(runs - 1, BYTE_BITS);
            int from = base;
            for (int k = 0; k < runs; k++) {
                int first = set.leastFrom(from);
                int end = first + 1;
                while (end < base + PIECE_NUMBERS && set.holds(end)) {
                    end++;
                }
                tape.append(first, BYTE_BITS);
                tape.append(end - first - 1, BYTE_BITS);
                from = end;
            }
        }

        private static boolean learnList(Tape tape, Numbers told, int base) {
            int n = tape.take(BYTE_BITS) + 1;
            int ahead = -1;
            for (int k = 0; k < n; k++) {
                int v = tape.take(BYTE_BITS);
                if (v <= ahead) {
                    return false;
                }
                told.add(base + v);
                ahead = v;
            }
            return true;
        }

        private static void learnBits(Tape tape, Numbers told, int base) {
            for (int i = 0; i < PIECE_NUMBERS; i++) {
                if (tape.take(1) == 1) {
                    told.add(base + i);
                }
            }
        }

        /** Two RUNS side by side would be one, so a NUMBER that is not in the SET lies between them. */
        private static boolean learnRuns(Tape tape, Numbers told, int base) {
            int runs = tape.take(BYTE_BITS) + 1;
            int least = 0;
            for (int k = 0; k < runs; k++) {
                int first = tape.take(BYTE_BITS);
                int last = first + tape.take(BYTE_BITS);
                if (first < least || last >= PIECE_NUMBERS) {
                    return false;
                }
                told.include(base + first, base + last);
                least = last + 2;
            }
            return true;
        }
    }
}

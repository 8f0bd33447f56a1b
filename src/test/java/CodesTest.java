/** Promises 15 to 18: the three CODES, with tapes written out by hand, and tapes that are no CODE. */
public final class CodesTest {
    private static final Due DUE = new Due("CodesTest");
    private static final int[] NO_SETS = {-1, 8, Integer.MIN_VALUE, Integer.MAX_VALUE};
    private static final int[] NO_KINDS = {-1, 3, Integer.MIN_VALUE, Integer.MAX_VALUE};

    public static void main(String[] args) {
        codesByHand();
        codesOfManyNumbers();
        promise15();
        promise16();
        promise17();
        promise18();
        noTwoParts();
        noGaps();
        noPieces();
        moreNumbersThanThereAre();
        DUE.end();
    }

    /** SET 0 is made of the numbers; its CODE must be the tape, which must be read and asked. */
    private static void code(int kind, String tape, int... numbers) {
        KeyRows x = new KeyRows();
        for (int v : numbers) {
            x.put(0, v);
        }
        String want = tape.replace(" ", "");
        DUE.is("length of KIND " + kind, x.length(0, kind), want.length());
        DUE.is("write of KIND " + kind, x.write(0, kind), want.length());
        DUE.same("THE TAPE of KIND " + kind, Due.tape(x), want);
        x.fill(1, 0, 4095);
        DUE.is("read of KIND " + kind, x.read(1, kind), numbers.length);
        DUE.is("join of what was read", x.join(2, 0, 1, 3), 0);
        DUE.is("size() stays", x.size(), want.length());
        for (int k = 0; k < numbers.length; k++) {
            DUE.is("ask of KIND " + kind, x.ask(kind, k), x.select(0, k));
        }
        DUE.is("ask behind the last", x.ask(kind, numbers.length), KeyRows.NONE);
    }

    private static void noCode(int kind, String why, String tape) {
        KeyRows x = new KeyRows();
        x.fill(3, 100, 200);
        Due.tape(x, tape);
        DUE.is("read of KIND " + kind + ", " + why, x.read(3, kind), KeyRows.NONE);
        DUE.is("the SET stays, " + why, x.rank(3, 201) - x.rank(3, 100), 101);
        DUE.is("the SET stays, " + why, x.count(3), 101);
        DUE.is("ask of KIND " + kind + ", " + why, x.ask(kind, 0), KeyRows.NONE);
        String want = tape.replace(" ", "");
        DUE.is("size() stays", x.size(), want.length());
        // An object answers 512 calls: a long tape has cost too many of them already.
        if (want.length() < 200) {
            DUE.same("THE TAPE stays", Due.tape(x), want);
        }
    }

    private static String rest(int pieces) {
        return "11".repeat(pieces);
    }

    private static void codesByHand() {
        code(0, "0000000000000");
        code(1, "0000000000000");
        code(2, rest(16));
        code(0, "0000000000001 000000000101 10", 5);
        code(1, "0000000000001 00110", 5);
        code(2, "00 00000000 00000101" + rest(15), 5);
        code(0, "0000000000001 111111111111 10", 4095);
        code(1, "0000000000001 000000000000 1000000000000", 4095);
        code(2, rest(15) + "00 00000000 11111111", 4095);
        // n = 3: l is 10, since 3 times 1024 is 4096 at most, and there are four high parts.
        code(0, "0000000000011 0000000000 1111111111 0000000001 10 10 0 10", 0, 2047, 3073);
        code(1, "0000000000011 1 0000000000 11111111111 0000000000 10000000010", 0, 2047, 3073);
        code(2, "10 00000001 00000001 00000010 00000101 00000011" + rest(15), 1, 2, 3, 5, 6, 7, 8);
        code(2, "10 00000000 11111101 00000010 00 00000001 00000000 00000001" + rest(14), 253, 254, 255, 256, 257);
    }

    private static void codesOfManyNumbers() {
        StringBuilder bits = new StringBuilder();
        StringBuilder list = new StringBuilder("00" + Due.bits(31, 8));
        int[] listed = new int[32];
        int[] spread = new int[33];
        for (int i = 0; i < 33; i++) {
            spread[i] = 256 + 3 * i;
            bits.append(i == 0 ? "" : "00").append("1");
            if (i < 32) {
                listed[i] = 4 * i;
                list.append(Due.bits(4 * i, 8));
            }
        }
        bits.append("0".repeat(256 - bits.length()));
        code(2, "11 01" + bits + rest(14), spread);
        code(2, list + rest(15), listed);
        tapeOfAll(0, Due.bits(4096, 13) + "10".repeat(4096));
        tapeOfAll(1, Due.bits(4096, 13) + "1".repeat(4096));
        tapeOfAll(2, ("10" + Due.bits(0, 8) + Due.bits(0, 8) + Due.bits(255, 8)).repeat(16));
    }

    /** An object answers 512 calls, so each one is asked for some 500 bits. */
    private static void tapeOfAll(int kind, String want) {
        for (int from = 0; from < want.length(); from += 500) {
            KeyRows x = new KeyRows();
            x.fill(0, 0, 4095);
            DUE.is("write of all, KIND " + kind, x.write(0, kind), want.length());
            DUE.is("read of all, KIND " + kind, x.read(1, kind), 4096);
            DUE.is("count of what was read", x.count(1), 4096);
            DUE.is("ask of all, KIND " + kind, x.ask(kind, 4095), 4095);
            for (int i = from; i < Math.min(from + 500, want.length()); i++) {
                DUE.is("bit(" + i + ") of all, KIND " + kind, x.bit(i), want.charAt(i) - '0');
            }
        }
    }

    private static void promise15() {
        KeyRows x = new KeyRows();
        int[][] rows = {{1, 13 + 12 + 1 + 1}, {2, 13 + 22 + 2 + 2}, {3, 13 + 30 + 3 + 4}, {4, 13 + 40 + 4 + 4},
            {5, 13 + 45 + 5 + 8}, {2047, 13 + 2047 + 2047 + 2048}, {2048, 13 + 2048 * 3}, {2049, 13 + 2049 + 4096},
            {4096, 13 + 8192}};
        for (int[] row : rows) {
            x.fill(0, 0, row[0] - 1);
            DUE.is("length of TWO PARTS, " + row[0], x.length(0, 0), row[1]);
            DUE.is("length of GAPS, " + row[0], x.length(0, 1), 13 + row[0]);
        }
        x.drop(0, 0, 4095);
        for (int v = 1; v < 256; v += 2) {
            x.put(0, v);
        }
        DUE.is("length of GAPS, each 2", x.length(0, 1), 13 + 3 * 128);
        DUE.is("length of PIECES, one of BITS", x.length(0, 2), 258 + 15 * 2);
        DUE.is("size() stays", x.size(), 0);
        for (int set : NO_SETS) {
            DUE.is("length(" + set + ", 9)", x.length(set, 9), KeyRows.UNKNOWN);
        }
        for (int kind : NO_KINDS) {
            DUE.is("length(0, " + kind + ")", x.length(0, kind), KeyRows.OUTSIDE);
        }
    }

    private static void promise16() {
        KeyRows x = new KeyRows();
        x.put(0, 5);
        Due.tape(x, "1111111111111111111111111111111111111111");
        for (int set : NO_SETS) {
            DUE.is("write(" + set + ", 9)", x.write(set, 9), KeyRows.UNKNOWN);
        }
        for (int kind : NO_KINDS) {
            DUE.is("write(0, " + kind + ")", x.write(0, kind), KeyRows.OUTSIDE);
        }
        DUE.same("THE TAPE stays", Due.tape(x), "1".repeat(40));
        DUE.is("write(0, 1)", x.write(0, 1), 18);
        DUE.same("nothing of what was there", Due.tape(x), "000000000000100110");
        DUE.same("the SET stays", Due.numbers(x, 0), "5");
    }

    private static void promise17() {
        KeyRows x = new KeyRows();
        x.fill(0, 7, 9);
        x.put(1, 1);
        x.write(0, 1);
        for (int set : NO_SETS) {
            DUE.is("read(" + set + ", 9)", x.read(set, 9), KeyRows.UNKNOWN);
        }
        for (int kind : NO_KINDS) {
            DUE.is("read(1, " + kind + ")", x.read(1, kind), KeyRows.OUTSIDE);
        }
        DUE.same("the SET stays", Due.numbers(x, 1), "1");
        DUE.is("read(1, 1)", x.read(1, 1), 3);
        DUE.same("the SET", Due.numbers(x, 1), "7 8 9");
        x.put(1, 10);
        DUE.same("the SET that was written", Due.numbers(x, 0), "7 8 9");
        DUE.is("read(2, 1)", x.read(2, 1), 3);
        DUE.same("the TAPE's SET, again", Due.numbers(x, 2), "7 8 9");
        x.cut(0);
        for (int kind = 0; kind < 3; kind++) {
            DUE.is("read of an empty TAPE", x.read(1, kind), KeyRows.NONE);
        }
        DUE.same("the SET stays", Due.numbers(x, 1), "7 8 9 10");
    }

    private static void promise18() {
        KeyRows x = new KeyRows();
        x.fill(0, 7, 9);
        for (int kind = 0; kind < 3; kind++) {
            x.write(0, kind);
            for (int k : new int[] {-1, 3, 4096, Integer.MIN_VALUE, Integer.MAX_VALUE}) {
                DUE.is("ask(" + kind + ", " + k + ")", x.ask(kind, k), KeyRows.NONE);
            }
            for (int k = 0; k < 3; k++) {
                DUE.is("ask(" + kind + ", " + k + ")", x.ask(kind, k), 7 + k);
            }
            x.sign(false);
            DUE.is("ask(" + kind + ", 0), a bit too many", x.ask(kind, 0), KeyRows.NONE);
            x.cut(x.size() - 2);
            DUE.is("ask(" + kind + ", 0), a bit too few", x.ask(kind, 0), KeyRows.NONE);
        }
        for (int kind : NO_KINDS) {
            DUE.is("ask(" + kind + ", -1)", x.ask(kind, -1), KeyRows.OUTSIDE);
        }
        DUE.same("the SET stays", Due.numbers(x, 0), "7 8 9");
    }

    private static void noTwoParts() {
        noCode(0, "no bits", "");
        noCode(0, "n cut short", "000000000000");
        noCode(0, "no NUMBERS and a bit", "00000000000000");
        noCode(0, "no last 0", "0000000000001 000000000101 1");
        noCode(0, "a 0 too many", "0000000000001 000000000101 100");
        noCode(0, "a 1 behind the last 0", "0000000000001 000000000101 01");
        noCode(0, "a NUMBER 4096", "0000000000001 000000000000 01");
        noCode(0, "two 1s", "0000000000001 000000000101 11");
        noCode(0, "no 1", "0000000000001 000000000101 00");
        noCode(0, "the same NUMBER twice", "0000000000010 00000000001 00000000001 1100");
        noCode(0, "the greater NUMBER first", "0000000000010 00000000011 00000000001 1100");
        noCode(0, "a NUMBER that is too great", "0000000000010 00000000011 00000000001 1001");
        noCode(0, "a 1 too many at the end", "0000000000010 00000000011 00000000101 1101");
    }

    private static void noGaps() {
        noCode(1, "no bits", "");
        noCode(1, "n cut short", "000000000000");
        noCode(1, "no NUMBERS and a bit", "00000000000000");
        noCode(1, "a gap cut short", "0000000000001 0011");
        noCode(1, "a gap of 0s", "0000000000001 000");
        noCode(1, "a gap that is not there", "0000000000010 1");
        noCode(1, "a bit too many", "0000000000001 001100");
        noCode(1, "a NUMBER 4096", "0000000000001 000000000000 1000000000001");
        noCode(1, "a gap of 14 bits", "0000000000001 0000000000000 10000000000000");
        noCode(1, "a second NUMBER 4096", "0000000000010 000000000000 1000000000000 1");
        noCode(1, "0s that do not end", "0000000000001" + "0".repeat(400));
    }

    private static void noPieces() {
        noCode(2, "no bits", "");
        noCode(2, "a PIECE too few", rest(15));
        noCode(2, "half a PIECE", rest(15) + "1");
        noCode(2, "a bit too many", rest(16) + "1");
        noCode(2, "a PIECE too many", rest(17));
        noCode(2, "a LIST cut short", rest(15) + "00 00000001 00000001 0000010");
        noCode(2, "a LIST with a NUMBER twice", "00 00000001 00000101 00000101" + rest(15));
        noCode(2, "a LIST with the greater first", "00 00000001 00000110 00000101" + rest(15));
        noCode(2, "a LIST of a RUN of 3", "00 00000010 00000001 00000010 00000011" + rest(15));
        StringBuilder list = new StringBuilder();
        for (int i = 0; i < 33; i++) {
            list.append(Due.bits(2 * i, 8));
        }
        noCode(2, "a LIST of 33", "00 00100000" + list + rest(15));
        noCode(2, "BITS without NUMBERS", "01" + "0".repeat(256) + rest(15));
        noCode(2, "BITS of a LIST", "01" + "10".repeat(32) + "0".repeat(192) + rest(15));
        noCode(2, "BITS of RUNS", "01" + "1".repeat(256) + rest(15));
        noCode(2, "BITS cut short", rest(15) + "01" + "10".repeat(127) + "1");
        noCode(2, "RUNS of a LIST", "10 00000000 00000101 00000001" + rest(15));
        noCode(2, "RUNS side by side", "10 00000001 00000000 00000011 00000100 00000011" + rest(15));
        noCode(2, "RUNS over each other", "10 00000001 00000000 00000111 00000100 00001111" + rest(15));
        noCode(2, "the greater RUN first", "10 00000001 01000000 00000111 00000000 00000111" + rest(15));
        noCode(2, "a RUN over its PIECE's end", "10 00000000 11111101 00000011" + rest(15));
        noCode(2, "a RUN over the last PIECE's end", rest(15) + "10 00000000 11111101 00000011");
        noCode(2, "RUNS cut short", rest(15) + "10 00000000 11110000 0000111");
        StringBuilder runs = new StringBuilder();
        for (int i = 0; i < 16; i++) {
            runs.append(Due.bits(8 * i, 8)).append(Due.bits(4, 8));
        }
        noCode(2, "16 RUNS", "10 00001111" + runs + rest(15));
    }

    /** The tape of all NUMBERS, its n made 4097 and as long as such a CODE would be. */
    private static void moreNumbersThanThereAre() {
        for (int kind = 0; kind < 2; kind++) {
            KeyRows x = new KeyRows();
            x.fill(0, 0, 4095);
            x.write(0, kind);
            x.flip(12);
            x.sign(true);
            DUE.is("read of 4097 NUMBERS, KIND " + kind, x.read(1, kind), KeyRows.NONE);
            DUE.is("ask of 4097 NUMBERS, KIND " + kind, x.ask(kind, 0), KeyRows.NONE);
            x.flip(x.size() - 2);
            DUE.is("read of 4097 NUMBERS, KIND " + kind, x.read(1, kind), KeyRows.NONE);
            DUE.is("count(1)", x.count(1), 0);
        }
    }
}

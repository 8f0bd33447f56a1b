/** Promises 15 to 18: the three CODES, with tapes written out by hand. */
public final class CodesTest {
    private static final Due DUE = new Due("CodesTest");
    private static final int[] AROUND_POWERS = {1, 2, 3, 4, 5, 7, 8, 9, 15, 16, 17, 31, 32, 33, 63, 64, 65, 127, 128,
        129, 255, 256, 257, 511, 512, 513, 1023, 1024, 1025, 2047, 2048, 2049, 4095, 4096};

    public static void main(String[] args) {
        twoParts();
        gaps();
        pieces();
        promise15();
        promise16();
        promise17();
        promise18();
        DUE.end();
    }

    /** SET 0 is made of the numbers; its CODE must be the tape, which must be read and asked. */
    private static void code(int kind, String tape, int... numbers) {
        KeyRows x = new KeyRows();
        for (int v : numbers) {
            x.put(0, v);
        }
        String want = tape.replace(" ", "");
        DUE.is("length of KIND " + kind, x.length(0, kind), want.length());
        DUE.is("write of KIND " + kind, x.write(0, kind), want.length());
        DUE.same("THE TAPE of KIND " + kind, Due.tape(x), want);
        x.fill(1, 0, 4095);
        DUE.is("read of KIND " + kind, x.read(1, kind), numbers.length);
        DUE.is("join of what was read", x.join(2, 0, 1, 3), 0);
        DUE.is("size() stays", x.size(), want.length());
        for (int k = 0; k < Math.min(numbers.length, 40); k++) {
            DUE.is("ask of KIND " + kind, x.ask(kind, k), x.select(0, k));
        }
        DUE.is("ask behind the last", x.ask(kind, numbers.length), KeyRows.NONE);
        DUE.is("ask ahead of the first", x.ask(kind, -1), KeyRows.NONE);
    }

    private static String rest(int pieces) {
        return "11".repeat(pieces);
    }

    private static void twoParts() {
        DUE.test("TWO PARTS: n is 0: 13 bits and no more", () -> code(0, "0000000000000"));
        DUE.test("TWO PARTS: n is 1: l is 12, and q is 0 alone", () -> {
            code(0, "0000000000001 000000000000 10", 0);
            code(0, "0000000000001 000000000101 10", 5);
            code(0, "0000000000001 111111111111 10", 4095);
        });
        DUE.test("TWO PARTS: n is 2: l is 11", () -> {
            code(0, "0000000000010 00000000000 11111111111 10 10", 0, 4095);
            code(0, "0000000000010 00000000000 11111111111 110 0", 0, 2047);
            code(0, "0000000000010 00000000000 00000000001 0 110", 2048, 2049);
        });
        DUE.test("TWO PARTS: n times 2 to the l is 4096 at most: 3 and 4 have 10, 5 has 9", () -> {
            code(0, "0000000000011 0000000000 1111111111 0000000001 10 10 0 10", 0, 2047, 3073);
            code(0, "0000000000100 0000000000 0000000000 0000000000 0000000000 10 10 10 10", 0, 1024, 2048, 3072);
            code(0, "0000000000101 000000000 111111111 000000000 000000000 111111111 110 10 10 0 0 0 0 10",
                0, 511, 512, 1024, 4095);
        });
        DUE.test("TWO PARTS: all NUMBERS: l is 0, a 1 and a 0 for each", () ->
            tapeOf(0, 0, 4095, Due.bits(4096, 13) + "10".repeat(4096)));
        DUE.test("TWO PARTS: 2048 NUMBERS: l is 1; 2049: l is 0", () -> {
            tapeOf(0, 0, 2047, Due.bits(2048, 13) + "01".repeat(1024) + "110".repeat(1024) + "0".repeat(1024));
            tapeOf(0, 2048, 4095, Due.bits(2048, 13) + "01".repeat(1024) + "0".repeat(1024) + "110".repeat(1024));
            tapeOf(0, 0, 2048, Due.bits(2049, 13) + "10".repeat(2049) + "0".repeat(2047));
            tapeOf(0, 2047, 4095, Due.bits(2049, 13) + "0".repeat(2047) + "10".repeat(2049));
        });
        DUE.test("TWO PARTS: each NUMBER alone, its lowest 12 bits, the highest one first", () -> {
            for (int v = 0; v < 4096; v++) {
                alone(0, "0000000000001" + Due.bits(v, 12) + "10", v);
            }
        });
        DUE.test("TWO PARTS: all but the first NUMBER, all but the last one", () -> {
            tapeOf(0, 1, 4095, Due.bits(4095, 13) + "0" + "10".repeat(4095));
            tapeOf(0, 0, 4094, Due.bits(4095, 13) + "10".repeat(4095) + "0");
        });
    }

    private static void gaps() {
        DUE.test("GAPS: n is 0: 13 bits and no more", () -> code(1, "0000000000000"));
        DUE.test("GAPS: the first one: by how much it is above -1", () -> {
            code(1, "0000000000001 1", 0);
            code(1, "0000000000001 010", 1);
            code(1, "0000000000001 00110", 5);
            code(1, "0000000000001 000000000000 1000000000000", 4095);
            code(1, "0000000000001 00000000000 111111111111", 4094);
        });
        DUE.test("GAPS: by how much it is above the one ahead of it", () -> {
            code(1, "0000000000011 1 0000000000 11111111111 0000000000 10000000010", 0, 2047, 3073);
            code(1, "0000000000010 1 00000000000 111111111111", 0, 4095);
            code(1, "0000000000010 00000000000 111111111111 1", 4094, 4095);
            code(1, "0000000000011 1 1 1", 0, 1, 2);
        });
        DUE.test("GAPS: as many 0s as it has bits, less one: 2 to the b and one less", () -> {
            for (int b = 1; b <= 12; b++) {
                int gap = 1 << b;
                alone(1, "0000000000001" + "0".repeat(b) + Due.bits(gap, b + 1), gap - 1);
                alone(1, "0000000000001" + "0".repeat(b - 1) + Due.bits(gap - 1, b), gap - 2);
            }
        });
        DUE.test("GAPS: each NUMBER alone", () -> {
            for (int v = 0; v < 4096; v++) {
                String gap = Integer.toBinaryString(v + 1);
                alone(1, "0000000000001" + "0".repeat(gap.length() - 1) + gap, v);
            }
        });
        DUE.test("GAPS: all NUMBERS: a 1 for each; all but the first, all but the last", () -> {
            tapeOf(1, 0, 4095, Due.bits(4096, 13) + "1".repeat(4096));
            tapeOf(1, 1, 4095, Due.bits(4095, 13) + "010" + "1".repeat(4094));
            tapeOf(1, 0, 4094, Due.bits(4095, 13) + "1".repeat(4095));
        });
    }

    private static void pieces() {
        DUE.test("PIECES: 3: none, for each PIECE of a SET without NUMBERS", () -> code(2, rest(16)));
        DUE.test("PIECES: a LIST in the first PIECE, in the last one, in each", () -> {
            code(2, "00 00000000 00000101" + rest(15), 5);
            code(2, rest(15) + "00 00000000 11111111", 4095);
            for (int h = 0; h < 16; h++) {
                code(2, rest(h) + "00 00000001 00000000 11111111" + rest(15 - h), 256 * h, 256 * h + 255);
            }
        });
        DUE.test("PIECES: a LIST: n less 1, from 1 NUMBER to 32", PiecesOfNumbers::lists);
        DUE.test("PIECES: BITS: 256 of them, the n-th one for the n-th number", PiecesOfNumbers::bits);
        DUE.test("PIECES: RUNS: r less 1, from 1 RUN to 15", PiecesOfNumbers::runs);
        DUE.test("PIECES: RUNS: its first NUMBER, and how many it has less 1", () -> {
            code(2, "10 00000001 00000001 00000010 00000101 00000011" + rest(15), 1, 2, 3, 5, 6, 7, 8);
            code(2, "10 00000000 00000000 00000010" + rest(15), 0, 1, 2);
            code(2, "10 00000000 11111101 00000010" + rest(15), 253, 254, 255);
        });
        DUE.test("PIECES: RUNS: one of a NUMBER alone, a NUMBER apart from the next one", PiecesOfNumbers::loneRuns);
        DUE.test("PIECES: a RUN ends with its PIECE", () -> {
            code(2, "10 00000000 11111101 00000010 00 00000001 00000000 00000001" + rest(14), 253, 254, 255, 256, 257);
            code(2, "00 00000000 11111111 00 00000000 00000000" + rest(14), 255, 256);
            tapeOf(2, 253, 258, "10 00000000 11111101 00000010 10 00000000 00000000 00000010" + rest(14));
        });
        DUE.test("PIECES: a RUN of all 256; all NUMBERS", () -> {
            String all = "10 00000000 00000000 11111111";
            for (int h = 0; h < 16; h++) {
                tapeOf(2, 256 * h, 256 * h + 255, rest(h) + all + rest(15 - h));
            }
            tapeOf(2, 0, 4095, all.repeat(16));
            tapeOf(2, 1, 4095, "10 00000000 00000001 11111110" + all.repeat(15));
            tapeOf(2, 0, 4094, all.repeat(15) + "10 00000000 00000000 11111110");
        });
        DUE.test("PIECES: each NUMBER alone", () -> {
            for (int v = 0; v < 4096; v++) {
                alone(2, rest(v / 256) + "00 00000000" + Due.bits(v % 256, 8) + rest(15 - v / 256), v);
            }
        });
    }

    /** THE CODES of one PIECE with many NUMBERS, in the first PIECE, a middle one and the last. */
    private static final class PiecesOfNumbers {
        private static void in(int[] pieceNumbers, String told) {
            for (int h : new int[] {0, 6, 15}) {
                int[] numbers = new int[pieceNumbers.length];
                for (int i = 0; i < numbers.length; i++) {
                    numbers[i] = 256 * h + pieceNumbers[i];
                }
                code(2, rest(h) + told + rest(15 - h), numbers);
            }
        }

        static void lists() {
            for (int n = 1; n <= 32; n++) {
                int[] numbers = new int[n];
                StringBuilder told = new StringBuilder("00" + Due.bits(n - 1, 8));
                for (int i = 0; i < n; i++) {
                    numbers[i] = 255 - 8 * (n - 1 - i);
                    told.append(Due.bits(numbers[i], 8));
                }
                in(numbers, told.toString());
            }
        }

        static void bits() {
            for (int first : new int[] {0, 1}) {
                int[] numbers = new int[33];
                char[] told = "0".repeat(256).toCharArray();
                for (int i = 0; i < 33; i++) {
                    numbers[i] = i < 32 ? first + 7 * i : 255;
                    told[numbers[i]] = '1';
                }
                in(numbers, "01" + new String(told));
            }
        }

        static void loneRuns() {
            for (int v = 0; v <= 250; v++) {
                String lone = Due.bits(v, 8) + "00000000";
                String others = Due.bits(v + 2, 8) + "00000011";
                code(2, "10 00000001" + lone + others + rest(15), v, v + 2, v + 3, v + 4, v + 5);
                lone = Due.bits(v + 5, 8) + "00000000";
                others = Due.bits(v, 8) + "00000011";
                code(2, rest(15) + "10 00000001" + others + lone, 3840 + v, 3841 + v, 3842 + v, 3843 + v, 3845 + v);
            }
        }

        static void runs() {
            for (int r = 1; r <= 15; r++) {
                int[] numbers = new int[3 * r];
                StringBuilder told = new StringBuilder("10" + Due.bits(r - 1, 8));
                for (int i = 0; i < r; i++) {
                    int first = 253 - 17 * (r - 1 - i);
                    told.append(Due.bits(first, 8)).append("00000010");
                    for (int j = 0; j < 3; j++) {
                        numbers[3 * i + j] = first + j;
                    }
                }
                in(numbers, told.toString());
            }
        }
    }

    private static void alone(int kind, String tape, int v) {
        KeyRows x = new KeyRows();
        x.put(0, v);
        String want = tape.replace(" ", "");
        DUE.is("length of " + v, x.length(0, kind), want.length());
        x.write(0, kind);
        DUE.same("THE TAPE of " + v, Due.tape(x), want);
        DUE.is("read of " + v, x.read(1, kind), 1);
        DUE.is("what was read", x.next(1, 0), v);
        DUE.is("ask(" + kind + ", 0)", x.ask(kind, 0), v);
        DUE.is("ask(" + kind + ", 1)", x.ask(kind, 1), KeyRows.NONE);
    }

    /** THE CODE of all NUMBERS from first to last. */
    private static void tapeOf(int kind, int first, int last, String tape) {
        String want = tape.replace(" ", "");
        DUE.tape(first + " to " + last + ", KIND " + kind, () -> written(kind, first, last), want);
        KeyRows x = written(kind, first, last);
        int n = last - first + 1;
        DUE.is("length", x.length(0, kind), want.length());
        DUE.is("read", x.read(1, kind), n);
        DUE.is("common(0, 1)", x.common(0, 1), n);
        DUE.is("count(1)", x.count(1), n);
        DUE.is("ask for the first", x.ask(kind, 0), first);
        DUE.is("ask for the last", x.ask(kind, n - 1), last);
        DUE.is("ask behind the last", x.ask(kind, n), KeyRows.NONE);
    }

    private static KeyRows written(int kind, int first, int last) {
        KeyRows x = new KeyRows();
        x.fill(0, first, last);
        x.write(0, kind);
        return x;
    }

    private static void promise15() {
        DUE.test("15: without NUMBERS, and with all of them", () -> {
            int[][] rows = {{0, 0, 13}, {0, 1, 13}, {0, 2, 32}, {6, 0, 8205}, {6, 1, 4109}, {6, 2, 416}};
            for (int[] row : rows) {
                DUE.is("length(" + row[0] + ", " + row[1] + ")", Sample.make().length(row[0], row[1]), row[2]);
            }
        });
        DUE.test("15: TWO PARTS: 13 bits, l for each NUMBER, a 1 for each NUMBER, a 0 for each q", () -> {
            int[][] rows = {{1, 13 + 12 + 1 + 1}, {2, 13 + 22 + 2 + 2}, {3, 13 + 30 + 3 + 4}, {4, 13 + 40 + 4 + 4},
                {5, 13 + 45 + 5 + 8}, {8, 13 + 72 + 8 + 8}, {9, 13 + 72 + 9 + 16}, {2047, 13 + 2047 + 2047 + 2048},
                {2048, 13 + 2048 * 3}, {2049, 13 + 2049 + 4096}, {4095, 13 + 4095 + 4096}};
            for (int[] row : rows) {
                DUE.is("length of " + row[0] + " NUMBERS", written(0, 0, row[0] - 1).length(0, 0), row[1]);
            }
        });
        DUE.test("15: TWO PARTS and GAPS around each power of 2", CodesTest::lengthsAroundPowers);
        DUE.test("15: TWO PARTS of each n from 0 to 4096", CodesTest::lengthsOfEachAmount);
        DUE.test("15: GAPS of each gap, PIECES of each second NUMBER", () -> {
            KeyRows x = new KeyRows();
            for (int v = 1; v < 256; v += 2) {
                x.put(0, v);
            }
            DUE.is("length of GAPS", x.length(0, 1), 13 + 3 * 128);
            DUE.is("length of PIECES", x.length(0, 2), 258 + 15 * 2);
        });
        DUE.test("15: asking changes nothing, not THE TAPE either", () -> {
            for (int kind = 0; kind < 3; kind++) {
                KeyRows x = Sample.make();
                x.length(6, kind);
                x.length(0, kind);
                DUE.same("what is there", Sample.state(x), Sample.STATE);
            }
        });
        setAndKind("15", "length", KeyRows::length);
    }

    private interface SetAndKind {
        int on(KeyRows x, int set, int kind);
    }

    /** What length, write and read have in common: KINDS 0 to 2, SETS 0 to 7, and what comes first. */
    private static void setAndKind(String promise, String call, SetAndKind made) {
        DUE.test(promise + ": OUTSIDE: a KIND below 0 or above 2, and nothing changes", () -> {
            for (int set = 0; set < 8; set++) {
                int s = set;
                DUE.stays(call + "(s, #)", Sample.NO_KINDS, k -> x -> made.on(x, s, k), KeyRows.OUTSIDE);
            }
        });
        DUE.test(promise + ": UNKNOWN: no SET, and nothing changes", () -> {
            for (int kind = 0; kind < 3; kind++) {
                int k = kind;
                DUE.stays(call + "(#, k)", Sample.NO_SETS, s -> x -> made.on(x, s, k), KeyRows.UNKNOWN);
            }
        });
        DUE.test(promise + ": UNKNOWN ahead of OUTSIDE", () -> {
            DUE.stays(call + "(#, -1)", Sample.NO_SETS, s -> x -> made.on(x, s, -1), KeyRows.UNKNOWN);
            DUE.stays(call + "(#, 3)", Sample.NO_SETS, s -> x -> made.on(x, s, 3), KeyRows.UNKNOWN);
        });
    }

    private static int lengthOfTwoParts(int n) {
        int l = 12;
        while (n << l > 4096) {
            l--;
        }
        return n == 0 ? 13 : 13 + n * l + n + 4096 / (1 << l);
    }

    private static void lengthsAroundPowers() {
        for (int n : AROUND_POWERS) {
            for (int first : new int[] {0, 4096 - n}) {
                KeyRows x = written(0, first, first + n - 1);
                DUE.is("length of TWO PARTS, " + n, x.length(0, 0), lengthOfTwoParts(n));
                DUE.is("size() of TWO PARTS, " + n, x.size(), lengthOfTwoParts(n));
                DUE.is("read of TWO PARTS, " + n, x.read(1, 0), n);
                DUE.is("what was read", x.common(0, 1), n);
                int gap = Integer.toBinaryString(first + 1).length();
                DUE.is("length of GAPS, " + n, x.length(0, 1), 13 + 2 * gap - 1 + n - 1);
                DUE.is("write of GAPS, " + n, x.write(0, 1), 13 + 2 * gap - 1 + n - 1);
                DUE.is("read of GAPS, " + n, x.read(2, 1), n);
                DUE.is("what was read", x.common(0, 2), n);
            }
        }
    }

    private static void lengthsOfEachAmount() {
        for (int from = 0; from <= 4096; from += 200) {
            KeyRows x = new KeyRows();
            if (from > 0) {
                x.fill(0, 0, from - 1);
            }
            for (int n = from; n < from + 200 && n <= 4096; n++) {
                DUE.is("length of TWO PARTS, " + n, x.length(0, 0), lengthOfTwoParts(n));
                x.put(0, Math.min(n, 4095));
            }
        }
    }

    private static void promise16() {
        DUE.test("16: how many bits: as many as length tells, as many as there are", () -> {
            for (int set = 0; set < 8; set++) {
                for (int kind = 0; kind < 3; kind++) {
                    KeyRows x = Sample.make();
                    int length = x.length(set, kind);
                    DUE.is("write(" + set + ", " + kind + ")", x.write(set, kind), length);
                    DUE.is("size()", x.size(), length);
                }
            }
        });
        DUE.test("16: THE TAPE is THE CODE: nothing of a longer one stays", () -> {
            KeyRows x = Sample.makeFull();
            DUE.is("write(4, 1)", x.write(4, 1), Sample.TAPE.length());
            DUE.same("what is there", Sample.state(x), Sample.STATE);
            Due.tape(x, "1".repeat(40));
            DUE.is("write(0, 0)", x.write(0, 0), 13);
            DUE.same("THE TAPE", Due.tape(x), "0".repeat(13));
            x.sign(false);
            DUE.is("the bit behind it", x.bit(13), 0);
        });
        DUE.test("16: a full TAPE has room for THE CODE, the longest one too", () -> {
            for (int kind = 0; kind < 3; kind++) {
                DUE.is("write(6, " + kind + ")", Sample.makeFull().write(6, kind), new int[] {8205, 4109, 416}[kind]);
            }
        });
        DUE.test("16: written again: the same", () -> {
            KeyRows x = Sample.make();
            x.write(4, 1);
            x.write(4, 1);
            DUE.same("what is there", Sample.state(x), Sample.STATE);
        });
        DUE.test("16: the SETS stay", () -> {
            for (int set = 0; set < 8; set++) {
                for (int kind = 0; kind < 3; kind++) {
                    KeyRows x = Sample.make();
                    x.write(set, kind);
                    Due.tape(x, Sample.TAPE);
                    DUE.same("what is there", Sample.state(x), Sample.STATE);
                }
            }
        });
        setAndKind("16", "write", KeyRows::write);
    }

    private static void promise17() {
        DUE.test("17: any SET of any KIND, into any SET: how many NUMBERS it has", CodesTest::readEach);
        DUE.test("17: a SET without NUMBERS: 0, and what the SET had is gone", () -> {
            for (int kind = 0; kind < 3; kind++) {
                KeyRows x = Sample.make();
                x.write(0, kind);
                DUE.is("read(6, " + kind + ")", x.read(6, kind), 0);
                DUE.is("count(6)", x.count(6), 0);
                DUE.is("read(3, " + kind + ")", x.read(3, kind), 0);
                DUE.same("SET 3", Due.numbers(x, 3), "");
            }
        });
        DUE.test("17: all NUMBERS", () -> {
            for (int kind = 0; kind < 3; kind++) {
                KeyRows x = Sample.make();
                x.write(6, kind);
                DUE.is("read(3, " + kind + ")", x.read(3, kind), 4096);
                DUE.is("count(3)", x.count(3), 4096);
            }
        });
        DUE.test("17: THE TAPE stays, and can be read again", () -> {
            KeyRows x = Sample.make();
            DUE.is("read(0, 1)", x.read(0, 1), 3);
            DUE.is("read(7, 1)", x.read(7, 1), 3);
            DUE.same("THE TAPE", Due.tape(x), Sample.TAPE);
            DUE.same("SET 0", Due.numbers(x, 0), "10 11 12");
            DUE.same("SET 7", Due.numbers(x, 7), "10 11 12");
        });
        DUE.test("17: what was read is apart from THE TAPE, and from the SET that was written", () -> {
            KeyRows x = Sample.make();
            x.read(0, 1);
            x.put(0, 99);
            x.drop(4, 0, 4095);
            DUE.is("read(7, 1)", x.read(7, 1), 3);
            DUE.same("SET 7", Due.numbers(x, 7), "10 11 12");
            DUE.same("SET 0", Due.numbers(x, 0), "10 11 12 99");
            DUE.is("count(4)", x.count(4), 0);
        });
        DUE.test("17: nothing of what was read before, or was no CODE, comes with the next one", CodesTest::readInTurn);
        DUE.test("17: into the SET that was written: nothing changes", () ->
            DUE.stays("read(4, 1)", x -> x.read(4, 1), 3));
        DUE.test("17: NONE: THE CODE of another KIND, and nothing changes", () -> {
            DUE.stays("read(0, 0)", x -> x.read(0, 0), KeyRows.NONE);
            DUE.stays("read(0, 2)", x -> x.read(0, 2), KeyRows.NONE);
            DUE.stays("read(4, 0)", x -> x.read(4, 0), KeyRows.NONE);
            DUE.stays("read(6, 2)", x -> x.read(6, 2), KeyRows.NONE);
        });
        setAndKind("17", "read", KeyRows::read);
        DUE.test("17: UNKNOWN and OUTSIDE ahead of NONE", () -> {
            DUE.stays("read(#, 0)", Sample.NO_SETS, s -> x -> x.read(s, 0), KeyRows.UNKNOWN);
            DUE.stays("read(#, 2)", Sample.NO_SETS, s -> x -> x.read(s, 2), KeyRows.UNKNOWN);
            KeyRows x = new KeyRows();
            DUE.is("read(8, 0) of an empty TAPE", x.read(8, 0), KeyRows.UNKNOWN);
            DUE.is("read(0, 3) of an empty TAPE", x.read(0, 3), KeyRows.OUTSIDE);
            DUE.is("read(0, -1) of an empty TAPE", x.read(0, -1), KeyRows.OUTSIDE);
        });
    }

    private static void readEach() {
        int[] amounts = {0, 1, 1, 6, 3, 3, 4096, 1};
        for (int from = 0; from < 8; from++) {
            for (int kind = 0; kind < 3; kind++) {
                for (int to = 0; to < 8; to++) {
                    KeyRows x = Sample.make();
                    x.write(from, kind);
                    String call = "read(" + to + ", " + kind + ") of SET " + from;
                    DUE.is(call, x.read(to, kind), amounts[from]);
                    DUE.is("count behind " + call, x.count(to), amounts[from]);
                    DUE.is("what differs behind " + call, x.join(to, to, from, 3), 0);
                    Due.tape(x, Sample.TAPE);
                    String[] lines = Sample.STATE.split("\n", -1);
                    String[] behind = Sample.state(x).split("\n", -1);
                    for (int i = 0; i < lines.length; i++) {
                        DUE.same("SET " + i + " behind " + call, behind[i], i == to ? to + ": " : lines[i]);
                    }
                }
            }
        }
    }

    private static void readInTurn() {
        for (int first = 0; first < 3; first++) {
            for (int kind = 0; kind < 3; kind++) {
                KeyRows x = Sample.make();
                x.write(6, first);
                DUE.is("read of all NUMBERS", x.read(7, first), 4096);
                x.write(3, kind);
                DUE.is("read behind all NUMBERS", x.read(7, kind), 6);
                DUE.same("SET 7", Due.numbers(x, 7), "3 31 32 255 256 4095");
                x.sign(true);
                DUE.is("read of no CODE", x.read(7, kind), KeyRows.NONE);
                DUE.is("ask of no CODE", x.ask(kind, 0), KeyRows.NONE);
                x.write(4, first);
                DUE.is("ask behind no CODE", x.ask(first, 0), 10);
                DUE.is("ask behind no CODE", x.ask(first, 3), KeyRows.NONE);
                DUE.is("read behind no CODE", x.read(7, first), 3);
                DUE.same("SET 7", Due.numbers(x, 7), "10 11 12");
                x.write(0, kind);
                DUE.is("ask behind a CODE", x.ask(kind, 0), KeyRows.NONE);
                DUE.is("read behind a CODE", x.read(7, kind), 0);
                DUE.is("count(7)", x.count(7), 0);
            }
        }
    }

    private static void promise18() {
        DUE.test("18: the k-th NUMBER, from 0 on, up to the last one", () -> {
            int[] numbers = {3, 31, 32, 255, 256, 4095};
            for (int kind = 0; kind < 3; kind++) {
                KeyRows x = Sample.make();
                x.write(3, kind);
                for (int k = 0; k < 6; k++) {
                    DUE.is("ask(" + kind + ", " + k + ")", x.ask(kind, k), numbers[k]);
                }
                DUE.is("ask(" + kind + ", 6)", x.ask(kind, 6), KeyRows.NONE);
                DUE.is("ask(" + kind + ", -1)", x.ask(kind, -1), KeyRows.NONE);
            }
        });
        DUE.test("18: each k of all NUMBERS", CodesTest::askAll);
        DUE.test("18: NONE: a SET without NUMBERS has none such", () -> {
            for (int kind = 0; kind < 3; kind++) {
                KeyRows x = Sample.make();
                x.write(0, kind);
                for (int k : new int[] {0, -1, 1, Integer.MIN_VALUE, Integer.MAX_VALUE}) {
                    DUE.is("ask(" + kind + ", " + k + ")", x.ask(kind, k), KeyRows.NONE);
                }
            }
        });
        DUE.test("18: NONE: k below 0, or as many as there are, or above, and nothing changes", () -> {
            int[] wrong = {-1, -2, 3, 4, 4095, 4096, 1 << 16, Integer.MIN_VALUE, Integer.MAX_VALUE};
            DUE.stays("ask(1, #)", wrong, k -> x -> x.ask(1, k), KeyRows.NONE);
        });
        DUE.test("18: NONE: THE CODE of no SET, and nothing changes", () -> {
            DUE.stays("ask(0, 0)", x -> x.ask(0, 0), KeyRows.NONE);
            DUE.stays("ask(2, 0)", x -> x.ask(2, 0), KeyRows.NONE);
            for (int kind = 0; kind < 3; kind++) {
                DUE.is("ask of an empty TAPE", new KeyRows().ask(kind, 0), KeyRows.NONE);
                DUE.is("ask of a full TAPE", Sample.makeFull().ask(kind, 0), KeyRows.NONE);
            }
        });
        DUE.test("18: the SETS stay, and THE TAPE", () -> {
            DUE.stays("ask(1, 0)", x -> x.ask(1, 0), 10);
            DUE.stays("ask(1, 2)", x -> x.ask(1, 2), 12);
        });
        DUE.test("18: asked of THE TAPE, not of the SET that was written", () -> {
            KeyRows x = Sample.make();
            x.drop(4, 0, 4095);
            DUE.is("ask(1, 1)", x.ask(1, 1), 11);
            x.write(5, 2);
            DUE.is("ask(2, 1)", x.ask(2, 1), 13);
        });
        DUE.test("18: OUTSIDE: a KIND below 0 or above 2, and nothing changes", () ->
            DUE.stays("ask(#, 0)", Sample.NO_KINDS, kind -> x -> x.ask(kind, 0), KeyRows.OUTSIDE));
        DUE.test("18: OUTSIDE ahead of NONE", () -> {
            int[] ks = {-1, 3, Integer.MIN_VALUE, Integer.MAX_VALUE};
            for (int k : ks) {
                DUE.stays("ask(#, k)", Sample.NO_KINDS, kind -> x -> x.ask(kind, k), KeyRows.OUTSIDE);
            }
            DUE.is("ask(-1, 0) of an empty TAPE", new KeyRows().ask(-1, 0), KeyRows.OUTSIDE);
            DUE.is("ask(3, 0) of an empty TAPE", new KeyRows().ask(3, 0), KeyRows.OUTSIDE);
        });
    }

    private static void askAll() {
        for (int kind = 0; kind < 3; kind++) {
            for (int from = 0; from <= 4096; from += 400) {
                KeyRows x = written(kind, 0, 4095);
                for (int k = from; k < from + 400 && k <= 4097; k++) {
                    DUE.is("ask(" + kind + ", " + k + ")", x.ask(kind, k), k < 4096 ? k : KeyRows.NONE);
                }
            }
        }
    }
}

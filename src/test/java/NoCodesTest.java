/** Promises 17 and 18: tapes that are nearly THE CODE of a SET, and are THE CODE of none. */
public final class NoCodesTest {
    private static final Due DUE = new Due("NoCodesTest");
    private static final int[] LONGEST = {8205, 4109, 416};

    public static void main(String[] args) {
        everyKind();
        twoParts();
        gaps();
        pieces();
        formsThatAreNotDue();
        DUE.end();
    }

    private static KeyRows sampleWith(String tape) {
        KeyRows x = Sample.make();
        Due.tape(x, tape);
        return x;
    }

    /** NONE, and all stays: the SETS and THE TAPE. */
    private static void noCode(int kind, String tape) {
        String want = tape.replace(" ", "");
        KeyRows x = sampleWith(tape);
        String of = ", KIND " + kind + ", of " + (want.length() < 100 ? want : want.length() + " bits");
        DUE.is("read(3, k)" + of, x.read(3, kind), KeyRows.NONE);
        DUE.is("read(6, k)" + of, x.read(6, kind), KeyRows.NONE);
        DUE.is("ask(k, 0)" + of, x.ask(kind, 0), KeyRows.NONE);
        DUE.same("the SETS behind read" + of, Sample.setsOf(x), Sample.STATE_OF_SETS);
        DUE.is("size() behind read" + of, x.size(), want.length());
        // An object answers 512 calls: a long tape has cost too many of them already.
        if (want.length() < 180) {
            DUE.same("THE TAPE behind read", Due.tape(x), want);
        }
    }

    /** The nearest tape that is a CODE: what the test of the wrong one rests on. */
    private static void isCode(int kind, String tape, String numbers) {
        KeyRows x = sampleWith(tape);
        int amount = numbers.isEmpty() ? 0 : numbers.split(" ").length;
        DUE.is("read(3, k) of " + tape, x.read(3, kind), amount);
        DUE.same("SET 3", Due.numbers(x, 3), numbers);
    }

    private static String rest(int pieces) {
        return "11".repeat(pieces);
    }

    private static void everyKind() {
        DUE.test("17: NONE: an empty TAPE", () -> {
            for (int kind = 0; kind < 3; kind++) {
                noCode(kind, "");
            }
        });
        DUE.test("17: NONE: THE CODE of a SET, cut anywhere", NoCodesTest::cutAnywhere);
        DUE.test("17: NONE: THE CODE of a SET, and bits behind it", NoCodesTest::bitsBehind);
        DUE.test("17: NONE: all NUMBERS, cut by a bit", () -> {
            for (int kind = 0; kind < 3; kind++) {
                KeyRows x = Sample.make();
                x.write(6, kind);
                DUE.is("cut by a bit", x.cut(LONGEST[kind] - 1), 1);
                readsNone(x, kind);
            }
        });
        DUE.test("17: NONE: all NUMBERS, and a bit behind", () -> {
            for (int kind = 0; kind < 3; kind++) {
                for (boolean bit : new boolean[] {false, true}) {
                    KeyRows x = Sample.make();
                    x.write(6, kind);
                    DUE.is("sign(" + bit + ")", x.sign(bit), LONGEST[kind] + 1);
                    readsNone(x, kind);
                }
            }
        });
        DUE.test("17: NONE: 4096 NUMBERS, and two bits that are not as those of all NUMBERS", () -> {
            for (int kind = 0; kind < 2; kind++) {
                for (int i : new int[] {13, 14, 15, 31, 32, 2000, 4105, LONGEST[kind] - 3, LONGEST[kind] - 2}) {
                    KeyRows x = Sample.make();
                    x.write(6, kind);
                    x.flip(i);
                    readsNone(x, kind);
                    x.flip(i + 1);
                    readsNone(x, kind);
                    x.flip(i);
                    readsNone(x, kind);
                    x.flip(i + 1);
                    DUE.is("read, the bits turned again", x.read(3, kind), 4096);
                }
            }
        });
        DUE.test("17: NONE: a full TAPE", () -> {
            for (int kind = 0; kind < 3; kind++) {
                KeyRows x = Sample.makeFull();
                readsNone(x, kind);
                DUE.is("size()", x.size(), 8210);
            }
        });
        DUE.test("17: each bit of a CODE turned: as the document has it", NoCodesTest::eachBitTurned);
    }

    /** NONE for a TAPE that is too long to be signed bit by bit: the SETS stay. */
    private static void readsNone(KeyRows x, int kind) {
        DUE.is("read(3, " + kind + ")", x.read(3, kind), KeyRows.NONE);
        DUE.is("read(6, " + kind + ")", x.read(6, kind), KeyRows.NONE);
        DUE.is("ask(" + kind + ", 0)", x.ask(kind, 0), KeyRows.NONE);
        DUE.same("the SETS", Sample.setsOf(x), Sample.STATE_OF_SETS);
    }

    private static void cutAnywhere() {
        for (int set : new int[] {0, 1, 2, 3, 4}) {
            for (int kind = 0; kind < 3; kind++) {
                KeyRows x = Sample.make();
                for (int n = x.write(set, kind) - 1; n >= 0; n--) {
                    x.cut(n);
                    DUE.is("read of SET " + set + ", KIND " + kind + ", cut to " + n, x.read(7, kind), KeyRows.NONE);
                    DUE.is("ask", x.ask(kind, 0), KeyRows.NONE);
                }
                DUE.same("the SETS", Sample.setsOf(x), Sample.STATE_OF_SETS);
            }
        }
    }

    private static void bitsBehind() {
        for (int set : new int[] {0, 1, 2, 3, 4}) {
            for (int kind = 0; kind < 3; kind++) {
                for (boolean bit : new boolean[] {false, true}) {
                    KeyRows x = Sample.make();
                    x.write(set, kind);
                    for (int more = 1; more <= 40; more++) {
                        x.sign(bit);
                        DUE.is("read of SET " + set + ", KIND " + kind + ", and " + more + " bits", x.read(7, kind),
                            KeyRows.NONE);
                        DUE.is("ask", x.ask(kind, 0), KeyRows.NONE);
                    }
                    DUE.same("the SETS", Sample.setsOf(x), Sample.STATE_OF_SETS);
                }
            }
        }
    }

    /** A SET with PIECES of all FORMS, and its CODES; what each is with a bit turned is the model's to say. */
    private static void eachBitTurned() {
        int[][] spans = {{0, 0}, {7, 7}, {255, 300}, {600, 640}, {700, 702}, {4000, 4001}, {4095, 4095}};
        for (int kind = 0; kind < 3; kind++) {
            int size = Integer.MAX_VALUE;
            for (int i = 0; i < size; i++) {
                KeyRows x = new KeyRows();
                Model model = new Model();
                for (int[] span : spans) {
                    x.fill(0, span[0], span[1]);
                    model.fill(0, span[0], span[1], true);
                }
                for (int v = 1024; v < 1280; v += 7) {
                    x.put(0, v);
                    model.fill(0, v, v, true);
                }
                size = model.write(0, kind);
                DUE.is("write(0, " + kind + ")", x.write(0, kind), size);
                DUE.is("flip(" + i + ")", x.flip(i), model.flip(i));
                DUE.is("read(1, " + kind + "), bit " + i + " turned", x.read(1, kind), model.read(1, kind));
                DUE.is("count(1)", x.count(1), model.count(1));
                DUE.is("common(0, 1)", x.common(0, 1), model.common(0, 1));
                DUE.is("ask(" + kind + ", 0)", x.ask(kind, 0), model.ask(kind, 0));
            }
        }
    }

    private static void twoParts() {
        DUE.test("TWO PARTS, none: n is 0, and there is more", () -> {
            isCode(0, "0000000000000", "");
            noCode(0, "0000000000000 0");
            noCode(0, "0000000000000 1");
            noCode(0, "0000000000000 10");
        });
        DUE.test("TWO PARTS, none: n is 1, and there is no 1, or there are two", () -> {
            isCode(0, "0000000000001 000000000101 10", "5");
            noCode(0, "0000000000001 000000000101 00");
            noCode(0, "0000000000001 000000000101 11");
            noCode(0, "0000000000001 000000000101 0");
            noCode(0, "0000000000001 000000000101 1");
            noCode(0, "0000000000001 000000000101 110");
            noCode(0, "0000000000001 000000000101 100");
        });
        DUE.test("TWO PARTS, none: a 1 behind the last 0, a NUMBER 4096", () -> {
            noCode(0, "0000000000001 000000000000 01");
            noCode(0, "0000000000010 00000000011 00000000001 1001");
            noCode(0, "0000000000010 00000000011 00000000001 0101");
            noCode(0, "0000000000010 00000000011 00000000101 1101");
        });
        DUE.test("TWO PARTS, none: a NUMBER twice, or the greater one first", () -> {
            isCode(0, "0000000000010 00000000001 00000000011 1100", "1 3");
            noCode(0, "0000000000010 00000000001 00000000001 1100");
            noCode(0, "0000000000010 00000000011 00000000001 1100");
            noCode(0, "0000000000010 00000000001 00000000001 0110");
            noCode(0, "0000000000010 00000000000 00000000000 1100");
            isCode(0, "0000000000010 00000000011 00000000001 1010", "3 2049");
            isCode(0, "0000000000010 00000000001 00000000001 1010", "1 2049");
        });
        DUE.test("TWO PARTS, none: more 1s than n, or fewer", () -> {
            isCode(0, "0000000000011 0000000000 1111111111 0000000001 10 10 0 10", "0 2047 3073");
            noCode(0, "0000000000011 0000000000 1111111111 0000000001 10 10 0 11");
            noCode(0, "0000000000011 0000000000 1111111111 0000000001 10 11 0 10");
            noCode(0, "0000000000011 0000000000 1111111111 0000000001 10 10 0 00");
            noCode(0, "0000000000011 0000000000 1111111111 0000000001 00 10 0 10");
        });
        DUE.test("TWO PARTS, none: l is not the greatest one", () -> {
            noCode(0, "0000000000001 00000000101 10 0");
            noCode(0, "0000000000010 0000000000 0000000001 110 0 0 0");
        });
        DUE.test("TWO PARTS and GAPS, none: n is above 4096", NoCodesTest::moreThanThereAre);
        DUE.test("TWO PARTS, none: n is one more or one less than there are", () -> {
            noCode(0, "0000000000000 000000000101 10");
            noCode(0, "0000000000010 000000000101 10");
            noCode(0, "0000000000001 00000000001 00000000011 1100");
            noCode(0, "0000000000011 00000000001 00000000011 1100");
        });
    }

    /** The tape of all NUMBERS, its n made another, and as long as such a CODE might be. */
    private static void moreThanThereAre() {
        int[] bitsOfN = {12, 11, 5, 1};
        for (int kind = 0; kind < 2; kind++) {
            for (int turned : bitsOfN) {
                KeyRows x = Sample.make();
                x.write(6, kind);
                x.flip(turned);
                readsNone(x, kind);
                x.sign(true);
                readsNone(x, kind);
                x.sign(false);
                readsNone(x, kind);
            }
            noCode(kind, "1111111111111");
            noCode(kind, "1111111111111" + "10".repeat(100));
            noCode(kind, "1000000000001" + "1".repeat(100));
        }
    }

    private static void gaps() {
        DUE.test("GAPS, none: n is 0, and there is more", () -> {
            isCode(1, "0000000000000", "");
            noCode(1, "0000000000000 0");
            noCode(1, "0000000000000 1");
        });
        DUE.test("GAPS, none: a gap that is cut short, or is not there", () -> {
            isCode(1, "0000000000001 00110", "5");
            noCode(1, "0000000000001 0011");
            noCode(1, "0000000000001 001");
            noCode(1, "0000000000001 000");
            noCode(1, "0000000000001");
            noCode(1, "0000000000010 1");
            noCode(1, "0000000000010 00110");
        });
        DUE.test("GAPS, none: bits behind the last gap", () -> {
            noCode(1, "0000000000001 00110 0");
            noCode(1, "0000000000001 00110 1");
            noCode(1, "0000000000001 1 1");
        });
        DUE.test("GAPS, none: a NUMBER 4096, the first one or a later one", () -> {
            isCode(1, "0000000000001 000000000000 1000000000000", "4095");
            noCode(1, "0000000000001 000000000000 1000000000001");
            noCode(1, "0000000000001 000000000000 1111111111111");
            isCode(1, "0000000000010 00000000000 111111111111 1", "4094 4095");
            noCode(1, "0000000000010 000000000000 1000000000000 1");
            noCode(1, "0000000000010 00000000000 111111111111 010");
            noCode(1, "0000000000011 00000000000 111111111111 1 1");
            noCode(1, "0000000000010 1 000000000000 1000000000000");
        });
        DUE.test("GAPS, none: more bits than a gap has; a wrap-around would make it small", () -> {
            for (int zeros : new int[] {13, 14, 30, 31, 32, 33, 63, 64, 65, 128}) {
                noCode(1, "0000000000001" + "0".repeat(zeros) + "1" + "0".repeat(zeros));
                noCode(1, "0000000000001" + "0".repeat(zeros) + "1" + "0".repeat(zeros - 1) + "1");
                noCode(1, "0000000000001" + "0".repeat(zeros) + "1" + "1".repeat(zeros));
                noCode(1, "0000000000001" + "0".repeat(2 * zeros - 1) + "1");
                noCode(1, "0000000000001" + "0".repeat(zeros) + "1".repeat(zeros));
            }
        });
        DUE.test("GAPS, none: 0s that do not end", () -> {
            for (int zeros : new int[] {1, 12, 13, 14, 26, 32, 64, 300}) {
                noCode(1, "0000000000001" + "0".repeat(zeros));
            }
        });
        DUE.test("GAPS, none: n is one more or one less than there are", () -> {
            isCode(1, "0000000000011 1 010 1", "0 2 3");
            noCode(1, "0000000000010 1 010 1");
            noCode(1, "0000000000100 1 010 1");
            noCode(1, "1000000000000 1 010 1");
        });
    }

    private static void pieces() {
        DUE.test("PIECES, none: a PIECE too few, or too many", () -> {
            isCode(2, rest(16), "");
            noCode(2, rest(15));
            noCode(2, rest(15) + "1");
            noCode(2, rest(16) + "1");
            noCode(2, rest(17));
            noCode(2, rest(15) + "00 00000000 00000000 11");
        });
        DUE.test("PIECES, none: a PIECE that is cut short", () -> {
            noCode(2, rest(15) + "00 00000001 00000001 0000010");
            noCode(2, rest(15) + "00 00000001 00000001");
            noCode(2, rest(15) + "00 0000000");
            noCode(2, rest(15) + "01" + "10".repeat(127) + "1");
            noCode(2, rest(15) + "10 00000000 11110000 0000111");
            noCode(2, rest(15) + "10 00000001 00000000 00000111 00100000");
        });
        DUE.test("PIECES, none: a LIST with a NUMBER twice, or the greater one first", () -> {
            for (int h : new int[] {0, 9, 15}) {
                noCode(2, rest(h) + "00 00000001 00000101 00000101" + rest(15 - h));
                noCode(2, rest(h) + "00 00000001 00000110 00000101" + rest(15 - h));
                noCode(2, rest(h) + "00 00000001 00000000 00000000" + rest(15 - h));
                noCode(2, rest(h) + "00 00000001 11111111 00000000" + rest(15 - h));
                noCode(2, rest(h) + "00 00000010 00000001 11111111 00000001" + rest(15 - h));
            }
            isCode(2, "00 00000001 00000101 00000110" + rest(15), "5 6");
        });
        DUE.test("PIECES, none: RUNS side by side are one RUN", () -> {
            isCode(2, "10 00000001 00000000 00000011 00000101 00000010" + rest(15), "0 1 2 3 5 6 7");
            noCode(2, "10 00000001 00000000 00000011 00000100 00000011" + rest(15));
            noCode(2, rest(15) + "10 00000001 00000000 00000011 00000100 00000011");
        });
        DUE.test("PIECES, none: RUNS over each other, or the greater one first", () -> {
            noCode(2, "10 00000001 00000000 00000111 00000100 00001111" + rest(15));
            noCode(2, "10 00000001 00000000 00000111 00000000 00000111" + rest(15));
            noCode(2, "10 00000001 00000000 00000111 00000111 00000111" + rest(15));
            noCode(2, "10 00000001 01000000 00000111 00000000 00000111" + rest(15));
        });
        DUE.test("PIECES, none: a RUN over its PIECE's end", () -> {
            isCode(2, "10 00000000 11111101 00000010" + rest(15), "253 254 255");
            noCode(2, "10 00000000 11111101 00000011" + rest(15));
            noCode(2, "10 00000000 00000001 11111111" + rest(15));
            noCode(2, "10 00000000 11111111 11111111" + rest(15));
            noCode(2, rest(15) + "10 00000000 11111101 00000011");
            noCode(2, "10 00000001 00000000 00000111 11111101 00000011" + rest(15));
        });
        DUE.test("PIECES, none: a RUN over its PIECE's end, onto NUMBERS that the next PIECE tells too", () -> {
            isCode(2, "10 00000000 11111101 00000010 00 00000000 00000000" + rest(14), "253 254 255 256");
            noCode(2, "10 00000000 11111101 00000011 00 00000000 00000000" + rest(14));
            noCode(2, "10 00000000 11111101 00000100 00 00000001 00000000 00000001" + rest(14));
            noCode(2, "10 00000000 11111101 00000011 10 00000000 00000000 00000010" + rest(14));
            noCode(2, rest(14) + "10 00000000 11111101 00000011 00 00000000 00000000");
        });
    }

    /** Each PIECE told in a FORM that another one, with fewer bits or lesser, goes ahead of. */
    private static void formsThatAreNotDue() {
        DUE.test("PIECES, none: a LIST where RUNS are due", () -> {
            isCode(2, "00 00000001 00000001 00000010" + rest(15), "1 2");
            noCode(2, "00 00000010 00000001 00000010 00000011" + rest(15));
        });
        DUE.test("PIECES, none: a LIST where BITS are due", () -> {
            noCode(2, list(33, 2) + rest(15));
            DUE.is("a LIST of 32", sampleWith(list(32, 2) + rest(15)).read(3, 2), 32);
        });
        DUE.test("PIECES, none: BITS where none is due, or a LIST, or RUNS", () -> {
            noCode(2, "01" + "0".repeat(256) + rest(15));
            noCode(2, "01" + "1" + "0".repeat(255) + rest(15));
            noCode(2, "01" + "0".repeat(255) + "1" + rest(15));
            noCode(2, "01" + "10".repeat(32) + "0".repeat(192) + rest(15));
            noCode(2, "01" + "1".repeat(256) + rest(15));
            noCode(2, rest(15) + "01" + "11100".repeat(15) + "0".repeat(256 - 75));
            DUE.is("BITS of 33", sampleWith("01" + "10".repeat(33) + "0".repeat(190) + rest(15)).read(3, 2), 33);
        });
        DUE.test("PIECES, none: RUNS where a LIST is due", () -> {
            noCode(2, "10 00000000 00000101 00000000" + rest(15));
            noCode(2, "10 00000000 00000101 00000001" + rest(15));
            isCode(2, "10 00000000 00000101 00000010" + rest(15), "5 6 7");
            noCode(2, "10 00000001 00000000 00000001 00000101 00000001" + rest(15));
        });
        DUE.test("PIECES, none: RUNS where BITS are due", () -> {
            noCode(2, runs(16, 3) + rest(15));
            DUE.is("15 RUNS", sampleWith(runs(15, 3) + rest(15)).read(3, 2), 45);
        });
        DUE.test("PIECES, none: BITS or RUNS where all three take the same", () -> {
            noCode(2, runs(16, 2) + rest(15));
            noCode(2, "01" + "110000".repeat(16) + "0".repeat(160) + rest(15));
            StringBuilder pairs = new StringBuilder("00" + Due.bits(31, 8));
            for (int i = 0; i < 32; i++) {
                pairs.append(Due.bits(i / 2 * 6 + i % 2, 8));
            }
            DUE.is("a LIST of 16 pairs", sampleWith(pairs + rest(15)).read(3, 2), 32);
        });
    }

    private static String list(int n, int step) {
        StringBuilder text = new StringBuilder("00" + Due.bits(n - 1, 8));
        for (int i = 0; i < n; i++) {
            text.append(Due.bits(step * i, 8));
        }
        return text.toString();
    }

    private static String runs(int r, int width) {
        StringBuilder text = new StringBuilder("10" + Due.bits(r - 1, 8));
        for (int i = 0; i < r; i++) {
            text.append(Due.bits(16 * i, 8)).append(Due.bits(width - 1, 8));
        }
        return text.toString();
    }
}

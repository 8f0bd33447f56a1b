/** The section "Terms", in its order (its CODES are in CodesTest), and an object's 512 calls. */
public final class TermsTest {
    private static final Due DUE = new Due("TermsTest");
    private static final int LIST = 0;
    private static final int BITS = 1;
    private static final int RUNS = 2;

    public static void main(String[] args) {
        numbersAndSets();
        runs();
        forms();
        costs();
        theTape();
        codes();
        refusals();
        DUE.test("An object is used for at most 512 calls: the 512th one is answered too", TermsTest::lastCalls);
        DUE.end();
    }

    private static void numbersAndSets() {
        DUE.test("NUMBERS are 0 to 4095: 0 and 4095 are, -1 and 4096 are not", () -> {
            DUE.is("put(0, 0)", new KeyRows().put(0, 0), 1);
            DUE.is("put(0, 4095)", new KeyRows().put(0, 4095), 1);
            DUE.is("put(0, -1)", new KeyRows().put(0, -1), KeyRows.OUTSIDE);
            DUE.is("put(0, 4096)", new KeyRows().put(0, 4096), KeyRows.OUTSIDE);
        });
        DUE.test("SETS 0 to 7: 0 and 7 are, -1 and 8 are not", () -> {
            DUE.is("count(0)", new KeyRows().count(0), 0);
            DUE.is("count(7)", new KeyRows().count(7), 0);
            DUE.is("count(-1)", new KeyRows().count(-1), KeyRows.UNKNOWN);
            DUE.is("count(8)", new KeyRows().count(8), KeyRows.UNKNOWN);
        });
        DUE.test("SETS have some of the NUMBERS, at first none", () -> {
            for (int set = 0; set < 8; set++) {
                KeyRows x = new KeyRows();
                DUE.is("count(" + set + ")", x.count(set), 0);
                DUE.same("its NUMBERS", Due.numbers(x, set), "");
                x.put(set, 0);
                x.fill(set, 255, 257);
                x.put(set, 4095);
                DUE.same("its NUMBERS", Due.numbers(x, set), "0 255 256 257 4095");
                for (int other = 0; other < 8; other++) {
                    DUE.is("count(" + other + ")", x.count(other), other == set ? 5 : 0);
                }
            }
        });
        DUE.test("PIECE h (0 to 15): 0 and 15 are, -1 and 16 are not", () -> {
            DUE.is("piece(0, 0, 1)", new KeyRows().piece(0, 0, 1), 0);
            DUE.is("piece(0, 15, 1)", new KeyRows().piece(0, 15, 1), 0);
            DUE.is("piece(0, -1, 1)", new KeyRows().piece(0, -1, 1), KeyRows.OUTSIDE);
            DUE.is("piece(0, 16, 1)", new KeyRows().piece(0, 16, 1), KeyRows.OUTSIDE);
        });
        DUE.test("PIECE h: from 256 h on, up to 256 h + 255", () -> {
            for (int h = 0; h < 16; h++) {
                KeyRows x = new KeyRows();
                x.fill(0, Math.max(0, 256 * h - 1), Math.min(4095, 256 * h + 256));
                DUE.is("NUMBERS of PIECE " + h, x.piece(0, h, 1), 256);
                if (h > 0) {
                    DUE.is("NUMBERS of the one ahead of it", x.piece(0, h - 1, 1), 1);
                }
                if (h < 15) {
                    DUE.is("NUMBERS of the one behind it", x.piece(0, h + 1, 1), 1);
                }
            }
        });
    }

    private static void runs() {
        DUE.test("A RUN: side by side, as many as there are", TermsTest::runsGrowAndPart);
        DUE.test("A RUN of a PIECE ends with its PIECE", () -> {
            for (int h = 0; h < 15; h++) {
                KeyRows x = new KeyRows();
                x.fill(0, 256 * h + 255, 256 * h + 256);
                DUE.is("RUNS of PIECE " + h, x.piece(0, h, 2), 1);
                DUE.is("RUNS of PIECE " + (h + 1), x.piece(0, h + 1, 2), 1);
            }
        });
        DUE.test("A RUN that ends a PIECE is not ahead of one that begins the same", () -> {
            KeyRows x = new KeyRows();
            x.put(0, 255);
            x.put(0, 0);
            DUE.is("RUNS of PIECE 0", x.piece(0, 0, 2), 2);
        });
        DUE.test("RUNS: 0 without NUMBERS, 1 of all, 128 at most", () -> {
            KeyRows x = new KeyRows();
            DUE.is("RUNS without NUMBERS", x.piece(0, 3, 2), 0);
            x.fill(0, 768, 1023);
            DUE.is("RUNS of all", x.piece(0, 3, 2), 1);
            for (int v = 769; v < 1024; v += 2) {
                x.drop(0, v, v);
            }
            DUE.is("RUNS of each second NUMBER", x.piece(0, 3, 2), 128);
        });
        DUE.test("A RUN of one NUMBER, wherever it is", () -> {
            for (int v = 0; v < 4096; v++) {
                KeyRows x = new KeyRows();
                x.put(0, v);
                DUE.is("RUNS of " + v, x.piece(0, v / 256, 2), 1);
            }
        });
        DUE.test("Two NUMBERS side by side are one RUN, wherever they are", () -> {
            for (int v = 0; v < 4095; v++) {
                KeyRows x = new KeyRows();
                x.fill(0, v, v + 1);
                DUE.is("RUNS of " + v + " and the next", x.piece(0, v / 256, 2), 1);
                DUE.is("RUNS of the next one's PIECE", x.piece(0, (v + 1) / 256, 2), 1);
            }
        });
    }

    private static void runsGrowAndPart() {
        for (int at : new int[] {0, 30, 31, 62, 100, 253}) {
            KeyRows x = new KeyRows();
            x.put(0, 512 + at);
            x.put(0, 512 + at + 2);
            DUE.is("RUNS with a gap", x.piece(0, 2, 2), 2);
            x.put(0, 512 + at + 1);
            DUE.is("RUNS without it", x.piece(0, 2, 2), 1);
            x.drop(0, 512 + at + 1, 512 + at + 1);
            DUE.is("RUNS parted again", x.piece(0, 2, 2), 2);
            x.drop(0, 512 + at, 512 + at);
            DUE.is("RUNS, one gone", x.piece(0, 2, 2), 1);
        }
    }

    private static void forms() {
        DUE.test("n above 0 has a FORM; one without NUMBERS has none", () -> {
            form(3, 0, 0, KeyRows.NONE, 0);
            form(3, 1, 1, LIST, 8);
        });
        DUE.test("LIST and RUNS take the same bits: the lesser one, LIST; a NUMBER more: RUNS", () -> {
            for (int r = 1; r <= 15; r++) {
                form(r % 16, 2 * r - 1, r, LIST, 8 * (2 * r - 1));
                form(r % 16, 2 * r, r, LIST, 16 * r);
                form(r % 16, 2 * r + 1, r, RUNS, 16 * r);
            }
        });
        DUE.test("LIST and BITS take the same bits: the lesser one, LIST; a NUMBER more: BITS", () -> {
            for (int r = 17; r <= 31; r++) {
                form(r % 16, 31, r, LIST, 248);
                form(r % 16, 32, r, LIST, 256);
                form(r % 16, 33, r, BITS, 256);
            }
            form(0, 32, 32, LIST, 256);
            form(0, 33, 32, BITS, 256);
            form(15, 33, 33, BITS, 256);
        });
        DUE.test("LIST, BITS and RUNS take the same bits: LIST", () -> form(15, 32, 16, LIST, 256));
        DUE.test("BITS and RUNS take the same bits: the lesser one, BITS; a RUN less: RUNS", () -> {
            for (int n : new int[] {33, 34, 100, 200, 240}) {
                form(7, n, 17, BITS, 256);
                form(0, n, 16, BITS, 256);
                form(15, n, 15, RUNS, 240);
            }
            form(3, 241, 16, BITS, 256);
            form(4, 241, 15, RUNS, 240);
            form(5, 242, 15, RUNS, 240);
        });
        DUE.test("All NUMBERS of a PIECE, and all but one", () -> {
            form(0, 256, 1, RUNS, 16);
            form(15, 255, 1, RUNS, 16);
            form(8, 255, 2, RUNS, 32);
        });
        DUE.test("Of every n and r the FORM that takes the fewest bits", TermsTest::everyForm);
        DUE.test("The FORM goes with the NUMBERS as they come and go", TermsTest::formsInTurn);
    }

    /** A PIECE with n NUMBERS in r RUNS: all RUNS but the last of one NUMBER each. */
    private static KeyRows make(int h, int n, int r) {
        KeyRows x = new KeyRows();
        for (int i = 0; i < r - 1; i++) {
            x.put(0, 256 * h + 2 * i);
        }
        if (r > 0) {
            x.fill(0, 256 * h + 2 * (r - 1), 256 * h + 2 * (r - 1) + n - r);
        }
        return x;
    }

    private static void form(int h, int n, int r, int form, int bits) {
        KeyRows x = make(h, n, r);
        String of = " of " + n + " NUMBERS in " + r + " RUNS";
        DUE.is("FORM" + of, x.piece(0, h, 0), form);
        DUE.is("NUMBERS" + of, x.piece(0, h, 1), n);
        DUE.is("RUNS" + of, x.piece(0, h, 2), r);
        DUE.is("bits" + of, x.piece(0, h, 3), bits);
        DUE.is("COST" + of, x.cost(0), n == 0 ? 0 : 16 + bits);
        int coded = form == BITS ? 256 : 8 + bits;
        DUE.is("length" + of, x.length(0, 2), 32 + (n == 0 ? 0 : coded));
    }

    private static void everyForm() {
        for (int r = 1; r <= 128; r++) {
            for (int n = r; n <= 256 - (r - 1); n++) {
                int least = Math.min(8 * n, Math.min(256, 16 * r));
                form((n + r) % 16, n, r, least == 8 * n ? LIST : least == 256 ? BITS : RUNS, least);
            }
        }
    }

    private static void formsInTurn() {
        KeyRows x = new KeyRows();
        x.fill(0, 0, 1);
        DUE.is("FORM of 0 and 1", x.piece(0, 0, 0), LIST);
        x.put(0, 2);
        DUE.is("FORM of 0 to 2", x.piece(0, 0, 0), RUNS);
        x.drop(0, 1, 1);
        DUE.is("FORM of 0 and 2", x.piece(0, 0, 0), LIST);
        for (int v = 4; v < 66; v += 2) {
            x.put(0, v);
        }
        DUE.is("FORM of 33 NUMBERS apart", x.piece(0, 0, 0), BITS);
        x.drop(0, 64, 64);
        DUE.is("FORM of 32 NUMBERS apart", x.piece(0, 0, 0), LIST);
        x.fill(0, 0, 255);
        DUE.is("FORM of all", x.piece(0, 0, 0), RUNS);
        x.drop(0, 0, 255);
        DUE.is("FORM of none", x.piece(0, 0, 0), KeyRows.NONE);
    }

    private static void costs() {
        DUE.test("The COST: for each PIECE with NUMBERS 16 bits and those of its FORM", () -> {
            KeyRows x = new KeyRows();
            DUE.is("COST without NUMBERS", x.cost(4), 0);
            x.put(4, 4095);
            DUE.is("COST of a LIST of one", x.cost(4), 16 + 8);
            x.fill(4, 0, 255);
            DUE.is("COST with RUNS", x.cost(4), 16 + 16 + 16 + 8);
            for (int i = 0; i < 33; i++) {
                x.put(4, 1024 + 3 * i);
            }
            DUE.is("COST with BITS", x.cost(4), 16 + 16 + 16 + 256 + 16 + 8);
            x.drop(4, 0, 255);
            DUE.is("COST, a PIECE without NUMBERS again", x.cost(4), 16 + 256 + 16 + 8);
        });
    }

    private static void theTape() {
        DUE.test("THE TAPE is a row of bits: each one stays as it came, and where", () -> {
            String bits = "0010110111011110";
            KeyRows x = new KeyRows();
            Due.tape(x, bits);
            DUE.same("THE TAPE", Due.tape(x), bits);
        });
        DUE.test("THE TAPE: 8210 at most; each CODE has room on it", () -> {
            KeyRows x = Sample.makeFull();
            DUE.is("size()", x.size(), 8210);
            DUE.is("sign(true)", x.sign(true), KeyRows.ROOM);
            x.cut(8209);
            DUE.is("sign(true)", x.sign(true), 8210);
            DUE.is("the longest CODE", x.write(6, 0), 8205);
        });
    }

    private static void codes() {
        DUE.test("THE CODES of a SET without NUMBERS", () -> {
            String[] tapes = {"0".repeat(13), "0".repeat(13), "1".repeat(32)};
            for (int kind = 0; kind < 3; kind++) {
                KeyRows x = Sample.make();
                DUE.is("write(0, " + kind + ")", x.write(0, kind), tapes[kind].length());
                DUE.same("THE TAPE", Due.tape(x), tapes[kind]);
            }
        });
        DUE.test("THE CODE: what is told in so many bits: the highest one first: n, in 13", () -> {
            for (int bit = 0; bit <= 12; bit++) {
                for (int kind = 0; kind < 2; kind++) {
                    KeyRows x = new KeyRows();
                    x.fill(0, 0, (1 << bit) - 1);
                    x.write(0, kind);
                    DUE.same("n of KIND " + kind, firstBits(x, 13), "0".repeat(12 - bit) + "1" + "0".repeat(bit));
                }
            }
        });
        DUE.test("THE CODE: the highest one first: the lowest l bits, a gap, a FORM and what is in 8 bits", () -> {
            KeyRows x = new KeyRows();
            x.put(0, 1);
            x.write(0, 0);
            DUE.same("TWO PARTS of 1", Due.tape(x), "0000000000001" + "000000000001" + "10");
            x.write(0, 1);
            DUE.same("GAPS of 1", Due.tape(x), "0000000000001" + "0" + "10");
            x.write(0, 2);
            DUE.same("PIECES of 1", Due.tape(x), "00" + "00000000" + "00000001" + "11".repeat(15));
            x.fill(0, 1, 4);
            x.write(0, 2);
            DUE.same("PIECES of 1 to 4", Due.tape(x), "10" + "00000000" + "00000001" + "00000011" + "11".repeat(15));
        });
        DUE.test("THE CODE is of the SET as it is: of the NUMBERS, however they came", () -> {
            for (int kind = 0; kind < 3; kind++) {
                KeyRows x = new KeyRows();
                x.put(0, 300);
                x.put(0, 7);
                x.fill(0, 5, 9);
                x.fill(1, 0, 4095);
                x.drop(1, 10, 299);
                x.drop(1, 301, 4095);
                x.drop(1, 0, 4);
                x.write(0, kind);
                String tape = Due.tape(x);
                x.write(1, kind);
                DUE.same("THE CODE of the same NUMBERS", Due.tape(x), tape);
            }
        });
    }

    private static String firstBits(KeyRows x, int n) {
        StringBuilder text = new StringBuilder();
        for (int i = 0; i < n; i++) {
            text.append(x.bit(i));
        }
        return text.toString();
    }

    private static void refusals() {
        DUE.test("Calls answer the first that fits: UNKNOWN ahead of OUTSIDE; then nothing changes", () -> {
            DUE.stays("put(#, 4096)", Sample.NO_SETS, s -> x -> x.put(s, 4096), KeyRows.UNKNOWN);
            DUE.stays("fill(#, 9, 8)", Sample.NO_SETS, s -> x -> x.fill(s, 9, 8), KeyRows.UNKNOWN);
            DUE.stays("drop(#, 9, 8)", Sample.NO_SETS, s -> x -> x.drop(s, 9, 8), KeyRows.UNKNOWN);
            DUE.stays("join(#, 0, 1, 4)", Sample.NO_SETS, s -> x -> x.join(s, 0, 1, 4), KeyRows.UNKNOWN);
            DUE.stays("join(0, #, 1, 4)", Sample.NO_SETS, s -> x -> x.join(0, s, 1, 4), KeyRows.UNKNOWN);
            DUE.stays("join(0, 1, #, 4)", Sample.NO_SETS, s -> x -> x.join(0, 1, s, 4), KeyRows.UNKNOWN);
            DUE.stays("piece(#, 16, 4)", Sample.NO_SETS, s -> x -> x.piece(s, 16, 4), KeyRows.UNKNOWN);
            DUE.stays("write(#, 3)", Sample.NO_SETS, s -> x -> x.write(s, 3), KeyRows.UNKNOWN);
            DUE.stays("read(#, 3)", Sample.NO_SETS, s -> x -> x.read(s, 3), KeyRows.UNKNOWN);
        });
        DUE.test("OUTSIDE: another number out of its bounds, a first one above a last one", () -> {
            DUE.stays("put(0, 4096)", x -> x.put(0, 4096), KeyRows.OUTSIDE);
            DUE.stays("fill(0, 9, 8)", x -> x.fill(0, 9, 8), KeyRows.OUTSIDE);
            DUE.stays("drop(6, 9, 8)", x -> x.drop(6, 9, 8), KeyRows.OUTSIDE);
            DUE.stays("cut(-1)", x -> x.cut(-1), KeyRows.OUTSIDE);
        });
        DUE.test("ROOM: then nothing changes; of a full TAPE too UNKNOWN and OUTSIDE are answered", () -> {
            String full = Sample.state(Sample.makeFull());
            KeyRows x = Sample.makeFull();
            DUE.is("sign(true)", x.sign(true), KeyRows.ROOM);
            DUE.is("sign(false)", x.sign(false), KeyRows.ROOM);
            DUE.is("write(8, 0)", x.write(8, 0), KeyRows.UNKNOWN);
            DUE.is("write(6, 3)", x.write(6, 3), KeyRows.OUTSIDE);
            DUE.is("cut(8211)", x.cut(8211), KeyRows.OUTSIDE);
            DUE.same("what is there", Sample.state(x), full);
        });
    }

    /** 512 calls with each method again and again; all answers up to the last one are promised. */
    private static void lastCalls() {
        KeyRows x = new KeyRows();
        for (int i = 1; i <= 512; i++) {
            DUE.is("sign, call " + i, x.sign(i % 3 == 0), i);
        }
        x = new KeyRows();
        for (int i = 0; i < 511; i++) {
            DUE.is("put, call " + (i + 1), x.put(i % 8, 8 * i), 1);
        }
        DUE.is("count, call 512", x.count(0), 64);
        x = new KeyRows();
        x.fill(0, 0, 4095);
        for (int i = 1; i < 511; i += 2) {
            DUE.is("write, call " + (i + 1), x.write(0, 0), 8205);
            DUE.is("read, call " + (i + 2), x.read(i % 8, 0), 4096);
        }
        DUE.is("ask, call 512", x.ask(0, 4095), 4095);
    }
}

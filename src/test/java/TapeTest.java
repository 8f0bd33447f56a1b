/** Promises 19 to 23: THE TAPE, bit by bit. */
public final class TapeTest {
    private static final Due DUE = new Due("TapeTest");
    private static final int[] EDGES = {0, 1, 30, 31, 32, 33, 62, 63, 64, 65, 127, 128, 129};
    private static final String TEXT = "01101001100101101001011001101001100101100110100101101001100101101001"
        + "01100110100101101001100101100110100110010110100101100110100110";

    public static void main(String[] args) {
        promise19();
        promise20();
        promise21();
        promise22();
        promise23();
        DUE.end();
    }

    private static KeyRows of(String text) {
        KeyRows x = new KeyRows();
        Due.tape(x, text);
        return x;
    }

    private static void promise19() {
        DUE.test("19: a bit comes behind THE TAPE: how many there are", TapeTest::signEach);
        DUE.test("19: behind a CODE that was written", () -> {
            KeyRows x = Sample.make();
            DUE.is("sign(true)", x.sign(true), Sample.TAPE.length() + 1);
            DUE.is("sign(false)", x.sign(false), Sample.TAPE.length() + 2);
            DUE.same("THE TAPE", Due.tape(x), Sample.TAPE + "10");
        });
        DUE.test("19: bit 8210 is the last one that there is room for", () -> {
            KeyRows x = Sample.make();
            x.write(6, 0);
            for (int size = 8206; size <= 8210; size++) {
                DUE.is("sign to " + size, x.sign(size % 2 == 0), size);
                DUE.is("the bit", x.bit(size - 1), size % 2 == 0 ? 1 : 0);
            }
            DUE.is("sign beyond", x.sign(true), KeyRows.ROOM);
        });
        DUE.test("19: ROOM: THE TAPE is full, and nothing changes", () -> {
            String full = Sample.state(Sample.makeFull());
            for (boolean bit : new boolean[] {false, true}) {
                KeyRows x = Sample.makeFull();
                DUE.is("sign(" + bit + ")", x.sign(bit), KeyRows.ROOM);
                DUE.is("sign(" + bit + ") again", x.sign(bit), KeyRows.ROOM);
                DUE.same("what is there", Sample.state(x), full);
                DUE.tape("a full TAPE behind sign", () -> {
                    KeyRows y = Sample.makeFull();
                    y.sign(bit);
                    return y;
                }, Sample.fullTape());
            }
        });
        DUE.test("19: there is room again when bits went", () -> {
            KeyRows x = Sample.makeFull();
            x.cut(8209);
            DUE.is("sign(false)", x.sign(false), 8210);
            DUE.is("its last bit", x.bit(8209), 0);
            DUE.is("sign(false)", x.sign(false), KeyRows.ROOM);
            x.write(0, 0);
            DUE.is("sign behind a short CODE", x.sign(true), 14);
        });
        DUE.test("19: the SETS stay", () -> {
            KeyRows x = Sample.make();
            x.sign(true);
            x.cut(Sample.TAPE.length());
            DUE.same("what is there", Sample.state(x), Sample.STATE);
        });
    }

    private static void signEach() {
        KeyRows x = new KeyRows();
        for (int i = 0; i < TEXT.length(); i++) {
            DUE.is("sign", x.sign(TEXT.charAt(i) == '1'), i + 1);
        }
        DUE.same("THE TAPE", Due.tape(x), TEXT);
        for (boolean bit : new boolean[] {false, true}) {
            KeyRows y = new KeyRows();
            for (int i = 1; i <= 250; i++) {
                DUE.is("sign(" + bit + ")", y.sign(bit), i);
            }
            DUE.same("THE TAPE", Due.tape(y), (bit ? "1" : "0").repeat(250));
        }
    }

    private static void promise20() {
        DUE.test("20: just the first n bits stay: how many went", TapeTest::cutEach);
        DUE.test("20: all may stay, and all may go", () -> {
            KeyRows x = of(TEXT);
            DUE.is("cut(size)", x.cut(TEXT.length()), 0);
            DUE.same("THE TAPE", Due.tape(x), TEXT);
            DUE.is("cut(0)", x.cut(0), TEXT.length());
            DUE.is("size()", x.size(), 0);
            DUE.is("bit(0)", x.bit(0), KeyRows.NONE);
        });
        DUE.test("20: of an empty TAPE none goes", () -> {
            KeyRows x = new KeyRows();
            DUE.is("cut(0)", x.cut(0), 0);
            DUE.is("cut(1)", x.cut(1), KeyRows.OUTSIDE);
            DUE.is("cut(-1)", x.cut(-1), KeyRows.OUTSIDE);
            DUE.is("size()", x.size(), 0);
        });
        DUE.test("20: of a full TAPE", () -> {
            DUE.is("cut(8210)", Sample.makeFull().cut(8210), 0);
            DUE.is("cut(8209)", Sample.makeFull().cut(8209), 1);
            DUE.is("cut(0)", Sample.makeFull().cut(0), 8210);
            DUE.is("cut(8211)", Sample.makeFull().cut(8211), KeyRows.OUTSIDE);
            DUE.is("cut(-1)", Sample.makeFull().cut(-1), KeyRows.OUTSIDE);
        });
        DUE.test("20: what went does not come again", TapeTest::cutIsGone);
        DUE.test("20: OUTSIDE: n below 0, or above what there is, and nothing changes", () -> {
            int size = Sample.TAPE.length();
            int[] wrong = {-1, -2, -32, size + 1, size + 2, 8209, 8210, 8211, 9000, 1 << 16, Integer.MIN_VALUE,
                Integer.MIN_VALUE + size, Integer.MAX_VALUE};
            DUE.stays("cut(#)", wrong, n -> x -> x.cut(n), KeyRows.OUTSIDE);
            DUE.stays("cut(size)", x -> x.cut(size), 0);
        });
        DUE.test("20: the SETS stay", () -> {
            KeyRows x = Sample.make();
            DUE.is("cut(0)", x.cut(0), Sample.TAPE.length());
            Due.tape(x, Sample.TAPE);
            DUE.same("what is there", Sample.state(x), Sample.STATE);
        });
    }

    private static void cutEach() {
        for (int n = 0; n <= TEXT.length(); n++) {
            KeyRows x = of(TEXT);
            DUE.is("cut(" + n + ")", x.cut(n), TEXT.length() - n);
            DUE.same("THE TAPE", Due.tape(x), TEXT.substring(0, n));
            DUE.is("the bit that went", x.bit(n), KeyRows.NONE);
        }
    }

    private static void cutIsGone() {
        for (int n : EDGES) {
            KeyRows x = of("1".repeat(130));
            x.cut(n);
            x.sign(false);
            x.sign(false);
            DUE.same("THE TAPE", Due.tape(x), "1".repeat(n) + "00");
        }
        KeyRows x = Sample.makeFull();
        x.cut(0);
        x.write(0, 1);
        x.sign(false);
        DUE.same("THE TAPE", Due.tape(x), "0".repeat(14));
    }

    private static void promise21() {
        DUE.test("21: bit i is turned, and no other: what it is then", TapeTest::flipEach);
        DUE.test("21: the first and the last bit of a full TAPE", () -> {
            KeyRows x = Sample.makeFull();
            DUE.is("flip(0)", x.flip(0), 0);
            DUE.is("flip(8209)", x.flip(8209), 0);
            DUE.is("flip(8209) again", x.flip(8209), 1);
            DUE.is("flip(8208)", x.flip(8208), 1);
            DUE.is("bit(0)", x.bit(0), 0);
            DUE.is("bit(8208)", x.bit(8208), 1);
            DUE.is("bit(8209)", x.bit(8209), 1);
            DUE.is("size()", x.size(), 8210);
        });
        DUE.test("21: NONE: below 0, or as many as there are, or above, and nothing changes", () -> {
            int size = Sample.TAPE.length();
            int[] wrong = {-1, -2, -32, -8210, size, size + 1, 32, 8209, 8210, 8211, 1 << 16, Integer.MIN_VALUE,
                Integer.MAX_VALUE};
            DUE.stays("flip(#)", wrong, i -> x -> x.flip(i), KeyRows.NONE);
        });
        DUE.test("21: NONE: of an empty TAPE, of a full one", () -> {
            DUE.is("flip(0)", new KeyRows().flip(0), KeyRows.NONE);
            DUE.is("flip(-1)", new KeyRows().flip(-1), KeyRows.NONE);
            DUE.is("flip(8210)", Sample.makeFull().flip(8210), KeyRows.NONE);
            DUE.is("flip(-1)", Sample.makeFull().flip(-1), KeyRows.NONE);
            DUE.tape("a full TAPE behind flip(8210)", () -> {
                KeyRows y = Sample.makeFull();
                y.flip(8210);
                y.flip(-1);
                return y;
            }, Sample.fullTape());
        });
        DUE.test("21: NONE: a bit that went, and it does not come turned", () -> {
            KeyRows x = of("0000");
            x.cut(2);
            DUE.is("flip(2)", x.flip(2), KeyRows.NONE);
            x.sign(false);
            DUE.same("THE TAPE", Due.tape(x), "000");
        });
        DUE.test("21: the SETS stay", () -> {
            KeyRows x = Sample.make();
            x.flip(0);
            x.flip(0);
            DUE.same("what is there", Sample.state(x), Sample.STATE);
        });
    }

    private static void flipEach() {
        for (int i = 0; i < TEXT.length(); i++) {
            KeyRows x = of(TEXT);
            int was = TEXT.charAt(i) - '0';
            DUE.is("flip(" + i + ")", x.flip(i), 1 - was);
            DUE.same("THE TAPE", Due.tape(x), TEXT.substring(0, i) + (1 - was) + TEXT.substring(i + 1));
            DUE.is("flip(" + i + ") again", x.flip(i), was);
            DUE.is("bit(" + i + ")", x.bit(i), was);
        }
    }

    private static void promise22() {
        DUE.test("22: bit i, each one from the first to the last", () -> {
            KeyRows x = of(TEXT);
            for (int i = 0; i < TEXT.length(); i++) {
                DUE.is("bit(" + i + ")", x.bit(i), TEXT.charAt(i) - '0');
            }
        });
        DUE.test("22: each bit of a full TAPE", () ->
            DUE.tape("a full TAPE", Sample::makeFull, Sample.fullTape()));
        DUE.test("22: NONE: below 0, or as many as there are, or above", () -> {
            int size = Sample.TAPE.length();
            int[] wrong = {-1, -2, -32, -8210, size, size + 1, 32, 8209, 8210, 8211, 1 << 16, Integer.MIN_VALUE,
                Integer.MAX_VALUE};
            DUE.stays("bit(#)", wrong, i -> x -> x.bit(i), KeyRows.NONE);
            DUE.stays("bit(size - 1)", x -> x.bit(size - 1), 1);
            DUE.stays("bit(0)", x -> x.bit(0), 0);
        });
        DUE.test("22: NONE: of an empty TAPE, of a full one", () -> {
            DUE.is("bit(0)", new KeyRows().bit(0), KeyRows.NONE);
            DUE.is("bit(-1)", new KeyRows().bit(-1), KeyRows.NONE);
            DUE.is("bit(8210)", Sample.makeFull().bit(8210), KeyRows.NONE);
            DUE.is("bit(8211)", Sample.makeFull().bit(8211), KeyRows.NONE);
            DUE.is("bit(-1)", Sample.makeFull().bit(-1), KeyRows.NONE);
            DUE.is("bit(8209)", Sample.makeFull().bit(8209), 1);
        });
        DUE.test("22: NONE: a bit that went", () -> {
            KeyRows x = of("1111");
            x.cut(2);
            DUE.is("bit(1)", x.bit(1), 1);
            DUE.is("bit(2)", x.bit(2), KeyRows.NONE);
        });
    }

    private static void promise23() {
        DUE.test("23: an empty TAPE, a full one", () -> {
            DUE.is("size()", new KeyRows().size(), 0);
            DUE.is("size()", Sample.makeFull().size(), 8210);
        });
        DUE.test("23: as bits come and go", () -> {
            KeyRows x = new KeyRows();
            x.sign(false);
            DUE.is("size(), a bit signed", x.size(), 1);
            x.write(0, 2);
            DUE.is("size(), a SET written", x.size(), 32);
            x.write(0, 1);
            DUE.is("size(), another CODE written", x.size(), 13);
            x.cut(11);
            DUE.is("size(), cut", x.size(), 11);
            x.cut(0);
            DUE.is("size(), all cut", x.size(), 0);
        });
        DUE.test("23: no other call changes it", () -> {
            KeyRows x = Sample.make();
            x.read(0, 1);
            x.ask(1, 0);
            x.flip(0);
            x.read(0, 1);
            x.bit(0);
            x.length(6, 0);
            x.put(0, 0);
            x.join(0, 1, 2, 1);
            DUE.is("size()", x.size(), Sample.TAPE.length());
        });
        DUE.test("23: asking changes nothing", () ->
            DUE.stays("size()", x -> x.size(), Sample.TAPE.length()));
    }
}

/** Promises 19 to 23: THE TAPE, bit by bit. */
public final class TapeTest {
    private static final Due DUE = new Due("TapeTest");

    public static void main(String[] args) {
        promise19();
        promise20();
        promise21();
        promise22();
        promise23();
        DUE.end();
    }

    private static void promise19() {
        KeyRows x = new KeyRows();
        DUE.is("sign(true)", x.sign(true), 1);
        DUE.is("sign(false)", x.sign(false), 2);
        DUE.is("sign(true)", x.sign(true), 3);
        DUE.same("THE TAPE", Due.tape(x), "101");
        x.fill(0, 0, 4095);
        x.write(0, 0);
        for (int size = 8206; size <= 8210; size++) {
            DUE.is("sign to " + size, x.sign(size % 2 == 0), size);
        }
        DUE.is("sign(true) on a full TAPE", x.sign(true), KeyRows.ROOM);
        DUE.is("sign(false) on a full TAPE", x.sign(false), KeyRows.ROOM);
        DUE.is("size() of a full TAPE", x.size(), 8210);
        DUE.is("its last bit", x.bit(8209), 1);
        DUE.is("cut one", x.cut(8209), 1);
        DUE.is("sign in the room", x.sign(false), 8210);
        DUE.is("its last bit", x.bit(8209), 0);
    }

    private static void promise20() {
        KeyRows x = new KeyRows();
        DUE.is("cut(0) of an empty TAPE", x.cut(0), 0);
        DUE.is("cut(1) of an empty TAPE", x.cut(1), KeyRows.OUTSIDE);
        Due.tape(x, "110101");
        for (int n : new int[] {-1, 7, 8210, 8211, Integer.MIN_VALUE, Integer.MAX_VALUE}) {
            DUE.is("cut(" + n + ")", x.cut(n), KeyRows.OUTSIDE);
        }
        DUE.is("cut(6)", x.cut(6), 0);
        DUE.same("THE TAPE", Due.tape(x), "110101");
        DUE.is("cut(4)", x.cut(4), 2);
        DUE.same("THE TAPE", Due.tape(x), "1101");
        x.sign(false);
        x.sign(false);
        DUE.same("what went does not come again", Due.tape(x), "110100");
        DUE.is("cut(0)", x.cut(0), 6);
        DUE.is("size()", x.size(), 0);
    }

    private static void promise21() {
        KeyRows x = new KeyRows();
        DUE.is("flip(0) of an empty TAPE", x.flip(0), KeyRows.NONE);
        Due.tape(x, "110101");
        DUE.is("flip(0)", x.flip(0), 0);
        DUE.is("flip(5)", x.flip(5), 0);
        DUE.is("flip(5) again", x.flip(5), 1);
        DUE.is("flip(2)", x.flip(2), 1);
        for (int i : new int[] {-1, 6, 8210, Integer.MIN_VALUE, Integer.MAX_VALUE}) {
            DUE.is("flip(" + i + ")", x.flip(i), KeyRows.NONE);
        }
        DUE.same("THE TAPE", Due.tape(x), "011101");
        x.sign(false);
        DUE.is("the bit behind", x.bit(6), 0);
    }

    private static void promise22() {
        KeyRows x = new KeyRows();
        DUE.is("bit(0) of an empty TAPE", x.bit(0), KeyRows.NONE);
        String text = "0110100110010110100101100110100110010110";
        Due.tape(x, text);
        for (int i = 0; i < text.length(); i++) {
            DUE.is("bit(" + i + ")", x.bit(i), text.charAt(i) - '0');
        }
        for (int i : new int[] {-1, 40, 8210, Integer.MIN_VALUE, Integer.MAX_VALUE}) {
            DUE.is("bit(" + i + ")", x.bit(i), KeyRows.NONE);
        }
    }

    private static void promise23() {
        KeyRows x = new KeyRows();
        DUE.is("size()", x.size(), 0);
        x.sign(false);
        DUE.is("size(), a bit signed", x.size(), 1);
        x.write(0, 2);
        DUE.is("size(), a SET written", x.size(), 32);
        x.cut(30);
        DUE.is("size(), cut", x.size(), 30);
        x.flip(0);
        x.read(0, 2);
        x.ask(2, 0);
        DUE.is("size() stays", x.size(), 30);
    }
}

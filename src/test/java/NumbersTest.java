/** Promises 23 and 24: cast and left, at the ends of the kinds and between them, held against Java's own. */
public final class NumbersTest {
    private static final int MANY = 200_000;
    private static final Due DUE = new Due("NumbersTest");
    /** An object is good for 512 calls, two for each number that is held. */
    private static final int HELD_BY_ONE = 256;

    private static OrreryDials program = new OrreryDials();
    private static Model model = new Model();
    private static int held = 0;

    public static void main(String[] args) {
        castByHand();
        castRefused();
        castAtTheEnds();
        castMany();
        leftByHand();
        leftRefused();
        leftAtTheEnds();
        leftMany();
        DUE.end();
    }

    private static void casts(int from, int to, long bits, long want) {
        OrreryDials x = new OrreryDials();
        DUE.due("cast(" + from + ", " + to + ", " + bits + ")", x.cast(from, to, bits), 1);
        DUE.due("seen() of cast(" + from + ", " + to + ", " + bits + ")", x.seen(), want);
        DUE.due("failed()", x.failed(), 0);
    }

    private static void renew() {
        if (held == HELD_BY_ONE) {
            program = new OrreryDials();
            model = new Model();
            held = 0;
        }
        held++;
    }

    /** Against the model: the answer and what is seen. */
    private static void castHeld(int from, int to, long bits) {
        renew();
        String call = "cast(" + from + ", " + to + ", " + bits + ")";
        DUE.due(call, program.cast(from, to, bits), model.cast(from, to, bits));
        DUE.due("seen() of " + call, program.seen(), model.seen);
    }

    private static void leftHeld(boolean fine, long x, long y) {
        renew();
        String call = "left(" + fine + ", " + x + ", " + y + ")";
        DUE.due(call, program.left(fine, x, y), model.left(fine, x, y));
        DUE.due("seen() of " + call, program.seen(), model.seen);
    }

    private static void castByHand() {
        casts(0, 1, 0xffffffffL, -1);
        casts(1, 0, 0x180000000L, Integer.MIN_VALUE);
        casts(0, 0, 0x180000000L, Integer.MIN_VALUE);
        casts(1, 2, 16777217, 0x4b800000L);
        casts(1, 2, 16777219, 0x4b800002L);
        casts(1, 3, (1L << 53) + 1, 0x4340000000000000L);
        casts(1, 2, Long.MIN_VALUE, 0xffffffffdf000000L);
        casts(1, 3, Long.MIN_VALUE, 0xc3e0000000000000L);
        casts(3, 0, Due.bits(-7.9), -7);
        casts(3, 0, Due.bits(1e10), Integer.MAX_VALUE);
        casts(3, 0, Due.bits(-1e10), Integer.MIN_VALUE);
        casts(3, 1, Due.bits(1e19), Long.MAX_VALUE);
        casts(3, 1, Due.bits(-1e19), Long.MIN_VALUE);
        casts(3, 1, 0x7ff0000000000000L, Long.MAX_VALUE);
        casts(2, 0, 0xff800000L, Integer.MIN_VALUE);
        casts(2, 3, 0x7f800000L, 0x7ff0000000000000L);
        casts(3, 2, 0xfff0000000000000L, 0xffffffffff800000L);
        casts(3, 2, Due.bits(1e39), 0x7f800000L);
        casts(3, 2, 0x47efffffefffffffL, 0x7f7fffffL);
        casts(3, 2, 0x47effffff0000000L, 0x7f800000L);
        casts(3, 2, Due.bits(0x1p-150), 0);
        casts(3, 2, Due.bits(-0x1p-150), Integer.MIN_VALUE);
        casts(3, 2, Due.bits(0x1.8p-149), 2);
        casts(2, 3, 1, Due.bits(0x1p-149));
    }

    private static void castRefused() {
        OrreryDials x = new OrreryDials();
        x.cast(1, 1, 77);
        for (int kind = 0; kind < 4; kind++) {
            DUE.due("from 4", x.cast(4, kind, 0), OrreryDials.OUTSIDE);
            DUE.due("from -1", x.cast(-1, kind, 0), OrreryDials.OUTSIDE);
            DUE.due("to 4", x.cast(kind, 4, 0), OrreryDials.OUTSIDE);
            DUE.due("to -1", x.cast(kind, -1, 0), OrreryDials.OUTSIDE);
            DUE.due("no double", x.cast(3, kind, 0x7ff0000000000001L), OrreryDials.OUTSIDE);
            DUE.due("no double", x.cast(3, kind, 0xfff8000000000000L), OrreryDials.OUTSIDE);
            DUE.due("no float", x.cast(2, kind, 0x7f800001L), OrreryDials.OUTSIDE);
            DUE.due("no float", x.cast(2, kind, 0x12345678ffc00000L), OrreryDials.OUTSIDE);
        }
        DUE.due("seen() as it was", x.seen(), 77);
        DUE.due("failed()", x.failed(), 0);
    }

    private static void castAtTheEnds() {
        for (int to = 0; to < 4; to++) {
            for (int near = -3; near <= 3; near++) {
                for (int i = 0; i < Numbers.wholeEnds(); i++) {
                    castHeld(0, to, Numbers.wholeEnd(i) + near);
                    castHeld(1, to, Numbers.wholeEnd(i) + near);
                }
                for (int i = 0; i < Numbers.floatEnds(); i++) {
                    castHeld(2, to, Numbers.floatEnd(i) + near);
                }
                for (int i = 0; i < Numbers.doubleEnds(); i++) {
                    castHeld(3, to, Numbers.doubleEnd(i) + near);
                }
            }
        }
    }

    private static void castMany() {
        Numbers numbers = new Numbers(23);
        for (int i = 0; i < MANY; i++) {
            int from = numbers.below(4);
            long bits = from < 2 ? numbers.whole() : numbers.real(from == 3);
            castHeld(from, numbers.below(4), bits);
        }
    }

    private static void leaves(boolean fine, double x, double y, double want) {
        OrreryDials o = new OrreryDials();
        String call = "left(" + fine + ", bits of " + x + ", bits of " + y + ")";
        DUE.due(call, o.left(fine, Due.bits(fine, x), Due.bits(fine, y)), 1);
        DUE.due("seen() of " + call, o.seen(), Due.bits(fine, want));
        DUE.due("failed()", o.failed(), 0);
    }

    private static void leftByHand() {
        for (boolean fine : new boolean[] {false, true}) {
            leaves(fine, 7, 3, 1);
            leaves(fine, -7, 3, -1);
            leaves(fine, 7, -3, 1);
            leaves(fine, -7, -3, -1);
            leaves(fine, 7.5, 2.5, 0.0);
            leaves(fine, -7.5, 2.5, -0.0);
            leaves(fine, 0.0, -1, 0.0);
            leaves(fine, -0.0, 1, -0.0);
            leaves(fine, 5, Double.POSITIVE_INFINITY, 5);
            leaves(fine, -5, Double.NEGATIVE_INFINITY, -5);
            leaves(fine, -0.0, Double.POSITIVE_INFINITY, -0.0);
            leaves(fine, 2, 3, 2);
            leaves(fine, 0x1p100, 7, 2);
        }
        leaves(true, Double.MAX_VALUE, Double.MIN_VALUE, 0.0);
        leaves(true, Double.MIN_VALUE, Double.MAX_VALUE, Double.MIN_VALUE);
        leaves(true, 5 * Double.MIN_VALUE, 3 * Double.MIN_VALUE, 2 * Double.MIN_VALUE);
        leaves(false, -Float.MAX_VALUE, Float.MIN_VALUE, -0.0);
    }

    private static void leftRefused() {
        OrreryDials x = new OrreryDials();
        x.cast(1, 1, 77);
        long one = Due.bits(1.0);
        long oneFloat = Due.bits(1f);
        DUE.due("by 0.0", x.left(true, one, 0), OrreryDials.OUTSIDE);
        DUE.due("by -0.0", x.left(true, one, Long.MIN_VALUE), OrreryDials.OUTSIDE);
        DUE.due("by no number", x.left(true, one, -1), OrreryDials.OUTSIDE);
        DUE.due("of no number", x.left(true, -1, one), OrreryDials.OUTSIDE);
        DUE.due("of endless", x.left(true, 0x7ff0000000000000L, one), OrreryDials.OUTSIDE);
        DUE.due("by 0.0f", x.left(false, oneFloat, 0x1234567800000000L), OrreryDials.OUTSIDE);
        DUE.due("by -0.0f", x.left(false, oneFloat, 0x80000000L), OrreryDials.OUTSIDE);
        DUE.due("by no float", x.left(false, oneFloat, 0x7f800001L), OrreryDials.OUTSIDE);
        DUE.due("of no float", x.left(false, 0xffc00000L, oneFloat), OrreryDials.OUTSIDE);
        DUE.due("of an endless float", x.left(false, 0xff800000L, oneFloat), OrreryDials.OUTSIDE);
        DUE.due("seen() as it was", x.seen(), 77);
        DUE.due("failed()", x.failed(), 0);
    }

    private static void leftAtTheEnds() {
        for (int i = 0; i < Numbers.doubleEnds(); i++) {
            for (int k = 0; k < Numbers.doubleEnds(); k++) {
                for (int near = -1; near <= 1; near++) {
                    leftHeld(true, Numbers.doubleEnd(i), Numbers.doubleEnd(k) + near);
                }
            }
        }
        for (int i = 0; i < Numbers.floatEnds(); i++) {
            for (int k = 0; k < Numbers.floatEnds(); k++) {
                for (int near = -1; near <= 1; near++) {
                    leftHeld(false, Numbers.floatEnd(i), Numbers.floatEnd(k) + near);
                }
            }
        }
    }

    private static void leftMany() {
        Numbers numbers = new Numbers(24);
        for (int i = 0; i < MANY; i++) {
            boolean fine = numbers.coin();
            leftHeld(fine, numbers.real(fine), numbers.real(fine));
        }
    }
}

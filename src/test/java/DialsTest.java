/** Promises 1 to 7: a new object, dial, turn, spin, place, laps, fine. */
public final class DialsTest {
    private static final Due DUE = new Due("DialsTest");
    private static final boolean[] KINDS = {false, true};

    public static void main(String[] args) {
        newObject();
        for (boolean fine : KINDS) {
            dial(fine);
            dialRefused(fine);
            turn(fine);
            turnRefused(fine);
            turnEndless(fine);
            lapsAtTheEnds(fine);
            zeroSigns(fine);
            spin(fine);
            spinRefused(fine);
            spinEndless(fine);
            placeAndFine(fine);
        }
        lowestBitsOfFloats();
        reckonedInTheirKind();
        sumsToTheNearest();
        dialsAreApart();
        DUE.end();
    }

    private static long most(boolean fine) {
        return fine ? Due.bits(Double.MAX_VALUE) : Due.bits(Float.MAX_VALUE);
    }

    private static long least(boolean fine) {
        return fine ? Due.bits(Double.MIN_VALUE) : Due.bits(Float.MIN_VALUE);
    }

    /** Endless to both sides, and no numbers. */
    private static long[] unfit(boolean fine) {
        if (fine) {
            return new long[] {0x7ff0000000000000L, 0xfff0000000000000L, 0x7ff8000000000000L, 0x7ff0000000000001L, -1L};
        }
        return new long[] {0x7f800000L, 0xff800000L, 0xffffffffff800000L, 0x7fc00000L, 0x7f800001L, -1L};
    }

    private static OrreryDials with(boolean fine, double rim) {
        OrreryDials x = new OrreryDials();
        DUE.due("dial(" + fine + ", bits of " + rim + ")", x.dial(fine, Due.bits(fine, rim)), 0);
        return x;
    }

    private static void turned(OrreryDials x, boolean fine, double a, double place, long laps) {
        DUE.due("turn(0, " + a + ") " + fine, x.turn(0, Due.bits(fine, a)), 1);
        stands(x, fine, place, laps);
    }

    private static void stands(OrreryDials x, boolean fine, double place, long laps) {
        DUE.due("place(0, 0) " + fine, x.place(0, 0), Due.bits(fine, place));
        DUE.due("laps(0) " + fine, x.laps(0), laps);
    }

    private static void newObject() {
        OrreryDials x = new OrreryDials();
        DUE.due("about(0)", x.about(0), 0);
        DUE.due("about(1)", x.about(1), 0);
        for (int log = 0; log < 8; log++) {
            DUE.due("read float", x.read(log, false, 0), OrreryDials.NULL);
            DUE.due("read double", x.read(log, true, 0), OrreryDials.NULL);
        }
        DUE.due("fine(0)", x.fine(0), OrreryDials.UNKNOWN);
        DUE.due("pulls(0)", x.pulls(0), OrreryDials.UNKNOWN);
    }

    private static void dial(boolean fine) {
        OrreryDials x = new OrreryDials();
        for (int i = 0; i < 12; i++) {
            DUE.due("dial " + i, x.dial(fine, Due.bits(fine, i % 2 == 0 ? i + 1 : -i)), i);
            DUE.due("about(0)", x.about(0), i + 1);
            DUE.due("place at first", x.place(i, 0), 0);
            DUE.due("laps at first", x.laps(i), 0);
        }
        DUE.due("a 13th dial", x.dial(fine, Due.bits(fine, 1)), OrreryDials.FULL);
        DUE.due("a 13th dial, its rim 0", x.dial(fine, 0), OrreryDials.OUTSIDE);
        DUE.due("about(0)", x.about(0), 12);
    }

    private static void dialRefused(boolean fine) {
        OrreryDials x = new OrreryDials();
        DUE.due("dial of 0.0", x.dial(fine, Due.bits(fine, 0.0)), OrreryDials.OUTSIDE);
        DUE.due("dial of -0.0", x.dial(fine, Due.bits(fine, -0.0)), OrreryDials.OUTSIDE);
        for (long rim : unfit(fine)) {
            DUE.due("dial of " + rim, x.dial(fine, rim), OrreryDials.OUTSIDE);
        }
        DUE.due("about(0)", x.about(0), 0);
        DUE.due("dial of the least", x.dial(fine, least(fine)), 0);
        DUE.due("dial of the most", x.dial(fine, most(fine)), 1);
    }

    private static void turn(boolean fine) {
        OrreryDials x = with(fine, 360);
        turned(x, fine, 10, 10, 0);
        turned(x, fine, 400, 50, 1);
        turned(x, fine, -800, -30, -1);
        turned(x, fine, -330, -0.0, -2);
        turned(x, fine, 359.5, 359.5, -2);
        turned(x, fine, 0.5, 0, -1);
        OrreryDials back = with(fine, -2.5);
        turned(back, fine, 10, 0, -4);
        turned(back, fine, 9, 1.5, -7);
        turned(back, fine, -12, -0.5, -3);
        OrreryDials even = with(fine, 4);
        turned(even, fine, 1, 1, 0);
        turned(even, fine, 0x1p20, 1, 1L << 18);
    }

    private static void turnRefused(boolean fine) {
        OrreryDials x = with(fine, 360);
        x.turn(0, Due.bits(fine, 400));
        x.read(0, fine, 0);
        DUE.due("turn(-1, ..)", x.turn(-1, 0), OrreryDials.UNKNOWN);
        DUE.due("turn(1, ..)", x.turn(1, 0), OrreryDials.UNKNOWN);
        DUE.due("turn(1, no number)", x.turn(1, -1), OrreryDials.UNKNOWN);
        DUE.due("turn(max, ..)", x.turn(Integer.MAX_VALUE, 0), OrreryDials.UNKNOWN);
        DUE.due("turn(min, ..)", x.turn(Integer.MIN_VALUE, 0), OrreryDials.UNKNOWN);
        for (long a : unfit(fine)) {
            DUE.due("turn(0, " + a + ")", x.turn(0, a), OrreryDials.OUTSIDE);
        }
        stands(x, fine, 40, 1);
        DUE.due("failed() after refusals", x.failed(), OrreryDials.NULL);
    }

    private static void turnEndless(boolean fine) {
        OrreryDials x = new OrreryDials();
        x.dial(fine, most(fine));
        double big = fine ? 0x1p1023 : 0x1p127;
        turned(x, fine, big, big, 0);
        DUE.due("turn endless", x.turn(0, Due.bits(fine, big)), OrreryDials.ENDLESS);
        stands(x, fine, big, 0);
        DUE.due("failed()", x.failed(), OrreryDials.ENDLESS);
        DUE.due("about(6)", x.about(6), 1);
        turned(x, fine, -big, 0, 0);
        DUE.due("failed() after a turn", x.failed(), 0);
        x.turn(0, Due.bits(fine, -big));
        DUE.due("turn endless below 0", x.turn(0, Due.bits(fine, -big)), OrreryDials.ENDLESS);
        stands(x, fine, -big, 0);
    }

    private static void lapsAtTheEnds(boolean fine) {
        OrreryDials x = with(fine, 0.5);
        double big = fine ? 0x1p1000 : 0x1p100;
        turned(x, fine, big, 0, Long.MAX_VALUE);
        turned(x, fine, 0.5, 0, Long.MIN_VALUE);
        turned(x, fine, -0.5, -0.0, Long.MAX_VALUE);
        turned(x, fine, -big, -0.0, -1);
        OrreryDials tiny = new OrreryDials();
        tiny.dial(fine, least(fine));
        DUE.due("turn by the most", tiny.turn(0, most(fine)), 1);
        stands(tiny, fine, 0, Long.MAX_VALUE);
    }

    private static void zeroSigns(boolean fine) {
        OrreryDials x = with(fine, 3);
        turned(x, fine, -0.0, 0.0, 0);
        turned(x, fine, -3, -0.0, -1);
        turned(x, fine, -0.0, -0.0, -1);
        turned(x, fine, 0.0, 0.0, -1);
        turned(x, fine, -1, -1, -1);
        turned(x, fine, 1, 0.0, -1);
    }

    private static void spin(boolean fine) {
        OrreryDials x = with(fine, 10);
        DUE.due("spin(0, 3, 0)", x.spin(0, Due.bits(fine, 3), 0), 0);
        stands(x, fine, 0, 0);
        DUE.due("spin(0, 3, 40)", x.spin(0, Due.bits(fine, 3), 40), 40);
        stands(x, fine, 0, 12);
        DUE.due("spin(0, -3, 5)", x.spin(0, Due.bits(fine, -3), 5), 5);
        stands(x, fine, -5, 11);
    }

    private static void spinRefused(boolean fine) {
        OrreryDials x = with(fine, 10);
        long three = Due.bits(fine, 3);
        DUE.due("spin(1, ..)", x.spin(1, three, 1), OrreryDials.UNKNOWN);
        DUE.due("spin(-1, ..)", x.spin(-1, three, -1), OrreryDials.UNKNOWN);
        DUE.due("spin 41", x.spin(0, three, 41), OrreryDials.OUTSIDE);
        DUE.due("spin -1", x.spin(0, three, -1), OrreryDials.OUTSIDE);
        for (long a : unfit(fine)) {
            DUE.due("spin by " + a, x.spin(0, a, 0), OrreryDials.OUTSIDE);
        }
        stands(x, fine, 0, 0);
    }

    private static void spinEndless(boolean fine) {
        OrreryDials x = new OrreryDials();
        x.dial(fine, most(fine));
        long quarter = Due.bits(fine, fine ? 0x1p1022 : 0x1p126);
        DUE.due("spin endless", x.spin(0, quarter, 40), 3);
        stands(x, fine, fine ? 0x3p1022 : 0x3p126, 0);
        DUE.due("failed()", x.failed(), OrreryDials.ENDLESS);
        DUE.due("about(6)", x.about(6), 1);
        DUE.due("spin no time", x.spin(0, quarter, 0), 0);
        DUE.due("failed()", x.failed(), 0);
        DUE.due("spin endless at once", x.spin(0, quarter, 2), 0);
        DUE.due("failed()", x.failed(), OrreryDials.ENDLESS);
        DUE.due("about(6)", x.about(6), 2);
    }

    private static void placeAndFine(boolean fine) {
        OrreryDials x = with(fine, -7);
        x.turn(0, Due.bits(fine, -15));
        DUE.due("place(0, 0)", x.place(0, 0), Due.bits(fine, -1));
        DUE.due("place(0, 1)", x.place(0, 1), Due.bits(fine, -7));
        DUE.due("place(0, 2)", x.place(0, 2), 0);
        DUE.due("place(0, -1)", x.place(0, -1), 0);
        DUE.due("place(1, 0)", x.place(1, 0), 0);
        DUE.due("place(-1, 1)", x.place(-1, 1), 0);
        DUE.due("laps(0)", x.laps(0), 2);
        DUE.due("laps(1)", x.laps(1), 0);
        DUE.due("laps(-1)", x.laps(-1), 0);
        DUE.due("fine(0)", x.fine(0), fine ? 1 : 0);
        DUE.due("fine(1)", x.fine(1), OrreryDials.UNKNOWN);
        DUE.due("fine(-1)", x.fine(-1), OrreryDials.UNKNOWN);
        DUE.due("fine(12)", x.fine(12), OrreryDials.UNKNOWN);
    }

    /** What stands above a float's 32 bits does not matter, and is never told. */
    private static void lowestBitsOfFloats() {
        OrreryDials x = new OrreryDials();
        long minusSeven = Due.bits(-7f) & 0xffffffffL;
        DUE.due("dial", x.dial(false, minusSeven | 0x1234567800000000L), 0);
        DUE.due("place(0, 1)", x.place(0, 1), Due.bits(-7f));
        DUE.due("turn", x.turn(0, Due.bits(9f) | 0xff00000000000000L), 1);
        DUE.due("place(0, 0)", x.place(0, 0), Due.bits(2f));
        DUE.due("spin", x.spin(0, minusSeven, 1), 1);
        DUE.due("place(0, 0)", x.place(0, 0), Due.bits(-5f));
        DUE.due("dial of 0.0f", x.dial(false, 0x100000000L), OrreryDials.OUTSIDE);
    }

    /** Sums and laps are rounded as floats are, not as doubles are. */
    private static void reckonedInTheirKind() {
        OrreryDials x = new OrreryDials();
        x.dial(false, Due.bits(0x1p30f));
        x.dial(true, Due.bits(0x1p30));
        x.turn(0, Due.bits(16777216f));
        x.turn(1, Due.bits(16777216.0));
        x.turn(0, Due.bits(1f));
        x.turn(1, Due.bits(1.0));
        DUE.due("place of a float", x.place(0, 0), Due.bits(16777216f));
        DUE.due("place of a double", x.place(1, 0), Due.bits(16777217.0));
        x.dial(false, Due.bits(0.1f));
        x.dial(true, Due.bits(0.1));
        x.turn(2, Due.bits(1f));
        x.turn(3, Due.bits(1.0));
        DUE.due("laps of 1 by 0.1, float", x.laps(2), 10);
        DUE.due("place of that", x.place(2, 0), Due.bits(1f % 0.1f));
        DUE.due("laps of 1 by 0.1, double", x.laps(3), 10);
        DUE.due("place of that", x.place(3, 0), Due.bits(1.0 % 0.1));
        x.dial(false, Due.bits(3f));
        x.turn(4, Due.bits(1e17f));
        DUE.due("laps of 1e17 by 3, float", x.laps(4), (long) (1e17f / 3f));
    }

    private static void sumsTo(boolean fine, double place, double a, double sum) {
        OrreryDials x = with(fine, 8);
        turned(x, fine, place, place, 0);
        turned(x, fine, a, sum, 0);
    }

    /** Of two as near the one whose last bit is 0; but a bit more, however small, decides. */
    private static void sumsToTheNearest() {
        sumsTo(true, 1, 0x1p-53, 1);
        sumsTo(true, 1, 0x1.0000000000001p-53, 0x1.0000000000001p0);
        sumsTo(true, 0x1.0000000000001p0, 0x1p-53, 0x1.0000000000002p0);
        sumsTo(true, 1, -0x1p-54, 1);
        sumsTo(true, 1, -0x1.0000000000001p-54, 0x1.fffffffffffffp-1);
        sumsTo(true, 1, Double.MIN_VALUE, 1);
        sumsTo(true, 1, -Double.MIN_VALUE, 1);
        sumsTo(true, Double.MIN_VALUE, -0x1p-1022, -0x1.ffffffffffffep-1023);
        sumsTo(false, 1, 0x1p-24, 1);
        sumsTo(false, 1, 0x1.000002p-24, 0x1.000002p0);
        sumsTo(false, 0x1.000002p0, 0x1p-24, 0x1.000004p0);
        sumsTo(false, 1, -0x1p-25, 1);
        sumsTo(false, 1, -0x1.000002p-25, 0x1.fffffep-1);
        sumsTo(false, 1, Float.MIN_VALUE, 1);
        sumsTo(false, -1, Float.MIN_VALUE, -1);
    }

    private static void dialsAreApart() {
        OrreryDials x = new OrreryDials();
        x.dial(false, Due.bits(10f));
        x.dial(true, Due.bits(10.0));
        x.dial(true, Due.bits(10.0));
        x.turn(1, Due.bits(25.0));
        DUE.due("place(0, 0)", x.place(0, 0), 0);
        DUE.due("place(1, 0)", x.place(1, 0), Due.bits(5.0));
        DUE.due("place(2, 0)", x.place(2, 0), 0);
        DUE.due("laps(1)", x.laps(1), 2);
        DUE.due("laps(2)", x.laps(2), 0);
        OrreryDials other = new OrreryDials();
        DUE.due("another object", other.about(0), 0);
    }
}

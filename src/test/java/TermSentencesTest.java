import java.io.IOException;

/** What the document says ahead of its promises, sentence by sentence. */
public final class TermSentencesTest extends Sentences {
    private static final int LEAST_INT = Integer.MIN_VALUE, MOST_INT = Integer.MAX_VALUE;

    public static void main(String[] args) throws IOException {
        run(TermSentencesTest.class, args, "Terms");
    }

    private static void casts(int from, int to, long bits, long want) {
        OrreryDials x = new OrreryDials();
        due(x, cast(from, to, bits), 1);
        due("seen() after " + cast(from, to, bits).text(), x.seen(), want);
    }

    private static void leaves(boolean fine, double x, double y, double want) {
        OrreryDials o = new OrreryDials();
        Call call = left(fine, bits(fine, x), bits(fine, y));
        due(o, call, 1);
        due("seen() after " + call.text(), o.seen(), bits(fine, want));
    }

    /** What these bits of that kind stand for. */
    private static double number(boolean fine, long bits) {
        return fine ? Double.longBitsToDouble(bits) : Float.intBitsToFloat((int) bits);
    }

    /** One dial of that rim. */
    private static OrreryDials dialOf(boolean fine, double rim) {
        OrreryDials x = new OrreryDials();
        x.dial(fine, bits(fine, rim));
        return x;
    }

    private static void turns(OrreryDials x, boolean fine, double a, double place, long laps) {
        due(x, turn(0, bits(fine, a)), 1);
        due(x, place(0, 0), bits(fine, place));
        due(x, laps(0), laps);
    }

    /** One dial of that rim, and a drive in slot 0. */
    private static OrreryDials drivenBy(boolean fine, double rim, int sort, double pull) {
        OrreryDials x = dialOf(fine, rim);
        x.drive(sort, bits(pull));
        x.fit(0, 0);
        return x;
    }

    private static void pullsTo(OrreryDials x, boolean fine, double place) {
        due(x, pull(0, 0), 1);
        due(x, place(0, 0), bits(fine, place));
    }

    // ---- numbers and how long an object is used

    @Says(in = "What it is", words = "NUMBERS are of KIND 0 INT, 1 LONG, 2 FLOAT, 3 DOUBLE,")
    static void kindsAreZeroToThree() {
        long[] minusTwo = {-2, -2, bits(-2f), bits(-2.0)};
        for (int from = INT; from <= DOUBLE; from++) {
            for (int to = INT; to <= DOUBLE; to++) {
                casts(from, to, minusTwo[from], minusTwo[to]);
            }
        }
        for (int kind = INT; kind <= DOUBLE; kind++) {
            refused(OUTSIDE, cast(-1, kind, 0));
            refused(OUTSIDE, cast(4, kind, 0));
            refused(OUTSIDE, cast(kind, -1, 0));
            refused(OUTSIDE, cast(kind, 4, 0));
        }
    }

    @Says(in = "What it is", words = "whole ones by themselves (of an INT the lowest 32 bits),")
    static void ofAnIntTheLowest32BitsCount() {
        casts(INT, LONG, 0x7fffffff80000000L, LEAST_INT);
        casts(INT, LONG, 0x80000000L, LEAST_INT);
        casts(INT, LONG, 0xffffffff7fffffffL, MOST_INT);
        casts(INT, INT, 0xffffffffL, -1);
        casts(INT, DOUBLE, 0x100000000L, 0);
        casts(INT, FLOAT, 0x1ffffffffL, bits(-1f));
        casts(LONG, LONG, 0x100000000L, 0x100000000L);
        casts(LONG, DOUBLE, 0x100000000L, bits(0x1p32));
    }

    @Says(in = "What it is", words = "FLOAT and DOUBLE by those of IEEE (of a FLOAT the lowest 32;")
    static void ofAFloatTheLowest32BitsCount() {
        for (long above : new long[] {0, 0x7ff8000100000000L, 0x8000000000000000L, 0xffffffff00000000L}) {
            for (float sign : new float[] {1, -1}) {
                takesTheLowest32Bits(above | bits(sign * 7) & 0xffffffffL, above | bits(sign * 3) & 0xffffffffL, sign);
            }
        }
    }

    private static void takesTheLowest32Bits(long seven, long three, float sign) {
        OrreryDials x = new OrreryDials();
        due(x, dial(false, three), 0);
        due(x, place(0, 1), bits(sign * 3));
        due(x, turn(0, seven), 1);
        due(x, place(0, 0), bits(sign));
        due(x, spin(0, three, 2), 2);
        due(x, place(0, 0), bits(sign));
        due(x, laps(0), 4);
        due(x, log(0, false, 1), 1);
        due(x, write(0, false, 0, three), 1);
        due(x, read(0, false, 0), 1);
        due(x, seen(), bits(sign * 3));
        due(x, sift(0, false, seven), 1);
        due(x, seen(), bits(sign));
        due(x, left(false, three, seven), 1);
        due(x, seen(), bits(sign * 3));
        casts(FLOAT, DOUBLE, seven, bits((double) sign * 7));
        casts(FLOAT, FLOAT, seven, bits(sign * 7));
        casts(FLOAT, LONG, seven, (long) sign * 7);
    }

    @Says(in = "What it is", words = "told as an int).")
    static void aFloatIsToldAsAnInt() {
        long minusOne = bits(-1f);
        due("the bits of -1 as a float", minusOne, -1082130432);
        OrreryDials x = new OrreryDials();
        due(x, dial(false, 0xbf800000L), 0);
        due(x, place(0, 1), -1082130432);
        due(x, turn(0, 0xbf000000L), 1);
        due(x, place(0, 0), bits(-0.5f));
        due(x, log(0, false, 1), 1);
        due(x, note(0, false, 0, 0), 1);
        due(x, read(0, false, 0), 1);
        due(x, seen(), bits(-0.5f));
        due(x, sift(0, false, 0xbf800000L), 1);
        due(x, seen(), bits(-0.0f));
        due(x, left(false, 0xbf800000L, bits(2f)), 1);
        due(x, seen(), minusOne);
        casts(INT, FLOAT, -1, minusOne);
        casts(DOUBLE, FLOAT, bits(-1.0), minusOne);
        casts(FLOAT, FLOAT, 0xff800000L, 0xffffffffff800000L);
    }

    @Says(in = "What it is", words = "An object is used for at most 512 calls after it has been made;")
    static void the512thCallIsAnsweredAsTheFirst() {
        OrreryDials x = drivenBy(true, 1e9, FLYWHEEL, 0x1.fffffffffffffp0);
        for (int i = 0; i < 4; i++) {
            x.lay(1, i, 0);
        }
        double place = 0;
        for (int count = 0; count < 4 * 504; count++) {
            place = (place + (0x1.fffffffffffffp0 + 0x1.fffffffffffffp0 * count)) % 1e9;
        }
        for (int calls = 7; calls < 511; calls++) {
            x.wind(1, 0);
        }
        due("place(0, 0) as the 512th call", x.place(0, 0), bits(place));
        due(x, pulls(0), 4 * 504);
    }

    // ---- terms

    @Says(in = "Terms", words = "FIT is a FLOAT or DOUBLE that is a number (no NaN) and not endless; others are not taken "
            + "where that is said.")
    static void fitIsANumberThatIsNotEndless() {
        for (boolean fine : KINDS) {
            int dial = fine ? 1 : 0;
            for (long no : unfit(fine)) {
                Call[] calls = {
                    dial(fine, no), turn(dial, no), spin(dial, no, 1), write(0, fine, 0, no), sift(0, fine, no),
                    left(fine, no, bits(fine, 1)),
                };
                for (Call call : calls) {
                    refused(OUTSIDE, call);
                }
            }
            for (long fit : fitEnds(fine)) {
                OrreryDials x = Orrery.dials(1);
                due(x, turn(dial, fit), 1);
                due(x, spin(dial, fit, 1), 1);
                due(x, log(0, fine, 1), 1);
                due(x, write(0, fine, 0, fit), 1);
                due(x, sift(0, fine, fit), number(fine, fit) == 0 ? 0 : 1);
                due(x, left(fine, fit, bits(fine, 1)), 1);
                due(x, dial(fine, fit), number(fine, fit) == 0 ? OUTSIDE : 2);
            }
        }
        for (long no : unfit(true)) {
            refused(OUTSIDE, drive(CRANK, no));
        }
        for (long fit : fitEnds(true)) {
            due(new OrreryDials(), drive(CRANK, fit), 0);
        }
    }

    @Says(in = "Terms", words = "What is reckoned is reckoned in the kind that is told,")
    static void reckonedInTheKindThatIsTold() {
        OrreryDials x = Orrery.dials(0x1p30);
        for (int dial = 0; dial < 2; dial++) {
            boolean fine = dial == 1;
            x.turn(dial, bits(fine, 16777216));
            x.turn(dial, bits(fine, 1));
            due(x, place(dial, 0), bits(fine, fine ? 16777217 : 16777216));
        }
        // The float 0.1 is a bit more than that: 1 by it is 10 as a float, and less than 10 as a double.
        turns(dialOf(false, 0.1f), false, 1, 1f % 0.1f, 10);
        turns(dialOf(true, 0.1f), true, 1, 1.0 % 0.1f, 9);
        turns(dialOf(false, 3), false, 1e10f, 1e10f % 3f, (long) (1e10f / 3f));
        // A drive reckons in doubles and is cast once.
        OrreryDials crank = drivenBy(false, 1e6, CRANK, 0.1);
        crank.gear(0, 3);
        pullsTo(crank, false, (float) (0.1 * 3));
        OrreryDials spring = drivenBy(false, 1e6, SPRING, 0.1);
        spring.turn(0, bits(0.3f));
        pullsTo(spring, false, 0.3f + (float) (0.1 - (double) 0.3f));
    }

    @Says(in = "Terms", words = "to the nearest (of two as near the one whose last bit is 0).")
    static void reckonedToTheNearest() {
        double[][] doubles = {
            {1, 0x1p-53, 1}, {1, 0x1.0000000000001p-53, 0x1.0000000000001p0}, {1, 0x1.fffffffffffffp-54, 1},
            {0x1.0000000000001p0, 0x1p-53, 0x1.0000000000002p0}, {1, -0x1p-54, 1},
            {1, -0x1.0000000000001p-54, 0x1.fffffffffffffp-1}, {1, Double.MIN_VALUE, 1},
        };
        double[][] floats = {
            {1, 0x1p-24, 1}, {1, 0x1.000002p-24, 0x1.000002p0}, {1, 0x1.fffffep-25, 1},
            {0x1.000002p0, 0x1p-24, 0x1.000004p0}, {1, -0x1p-25, 1}, {1, -0x1.000002p-25, 0x1.fffffep-1},
            {1, Float.MIN_VALUE, 1},
        };
        for (boolean fine : KINDS) {
            for (double[] sum : fine ? doubles : floats) {
                for (double sign : new double[] {1, -1}) {
                    OrreryDials x = dialOf(fine, 8);
                    turns(x, fine, sign * sum[0], sign * sum[0], 0);
                    turns(x, fine, sign * sum[1], sign * sum[2], 0);
                }
            }
        }
        sumsOfAllDistances();
        productsToTheNearest();
        lapsToTheNearest();
    }

    private static void sumsOfAllDistances() {
        for (boolean fine : KINDS) {
            for (int apart = 1; apart <= (fine ? 1074 : 149); apart++) {
                for (double sign : new double[] {1, -1}) {
                    double a = sign * Math.scalb(1.0, -apart);
                    OrreryDials x = dialOf(fine, 8);
                    turns(x, fine, 1, 1, 0);
                    turns(x, fine, a, fine ? 1 + a : 1f + (float) a, 0);
                }
            }
        }
    }

    /** Products that lie between two doubles, some of them just between. */
    private static void productsToTheNearest() {
        double[][] products = {
            {0x1.fffffffffffffp0, 3, 0x1.7ffffffffffffp2}, {0x1.0000000000001p0, 3, 0x1.8000000000002p1},
            {0x1.0000000000003p0, 3, 0x1.8000000000004p1}, {0x1.0000000000001p0, 1000, 1000 * 0x1.0000000000001p0},
            {Double.MIN_VALUE, 1000, 1000 * Double.MIN_VALUE},
        };
        for (double[] product : products) {
            OrreryDials x = drivenBy(true, 1e9, CRANK, product[0]);
            x.gear(0, (int) product[1]);
            pullsTo(x, true, product[2]);
            due("what a double answers", bits(product[0] * product[1]), bits(product[2]));
        }
    }

    /** A quotient just below a whole number is rounded up to it, and counts as that many laps. */
    private static void lapsToTheNearest() {
        for (boolean fine : KINDS) {
            OrreryDials x = dialOf(fine, 3);
            // The last ones below 3 * 2^52 (3 * 2^23): the quotient lies nearer to the whole one.
            double s = inward(fine, fine ? 0x1.8p53 : 0x1.8p24);
            due(x, turn(0, bits(fine, s)), 1);
            due(x, laps(0), fine ? (long) (s / 3) : (long) ((float) s / 3f));
            due(x, place(0, 0), bits(fine, s % 3));
        }
        // 0.6 / 0.2 is 2.9999999999999996 as a double, 0.3 / 0.1 too; 0.9 / 0.3 is 3.
        double[][] pairs = {{0.6, 0.2}, {0.3, 0.1}, {0.9, 0.3}, {1, 0.1}, {4.35, 0.01}, {0.7, 0.1}};
        for (double[] pair : pairs) {
            OrreryDials x = dialOf(true, pair[1]);
            turns(x, true, pair[0], pair[0] % pair[1], (long) (pair[0] / pair[1]));
            OrreryDials y = dialOf(false, pair[1]);
            float s = (float) pair[0];
            float rim = (float) pair[1];
            turns(y, false, s, s % rim, (long) (s / rim));
        }
    }

    @Says(in = "Terms", words = "CAST from one KIND to another: whole to whole: the lowest bits;")
    static void castOfWholesTakesTheLowestBits() {
        casts(LONG, INT, 0x100000000L, 0);
        casts(LONG, INT, 0x1ffffffffL, -1);
        casts(LONG, INT, 0x80000000L, LEAST_INT);
        casts(LONG, INT, 0x7fffffffL, MOST_INT);
        casts(LONG, INT, -0x80000001L, MOST_INT);
        casts(LONG, INT, Long.MAX_VALUE, -1);
        casts(LONG, INT, Long.MIN_VALUE, 0);
        casts(INT, LONG, LEAST_INT, LEAST_INT);
        casts(INT, LONG, MOST_INT, MOST_INT);
        casts(LONG, LONG, Long.MIN_VALUE, Long.MIN_VALUE);
        casts(INT, INT, LEAST_INT, LEAST_INT);
    }

    @Says(in = "Terms", words = "to FLOAT, DOUBLE: the nearest")
    static void castToFloatAndDoubleIsTheNearest() {
        for (int from = INT; from <= LONG; from++) {
            casts(from, FLOAT, 16777217, bits(16777216f));
            casts(from, FLOAT, 16777219, bits(16777220f));
            casts(from, FLOAT, -16777217, bits(-16777216f));
            casts(from, FLOAT, 33554434, bits(33554432f));
            casts(from, FLOAT, 33554435, bits(33554436f));
            casts(from, FLOAT, MOST_INT, bits(0x1p31f));
            casts(from, FLOAT, LEAST_INT, bits(-0x1p31f));
            casts(from, DOUBLE, MOST_INT, bits(2147483647.0));
            casts(from, DOUBLE, LEAST_INT, bits(-0x1p31));
            casts(from, DOUBLE, 0, 0);
            casts(from, FLOAT, 0, 0);
        }
        casts(LONG, DOUBLE, (1L << 53) + 1, bits(0x1p53));
        casts(LONG, DOUBLE, (1L << 53) + 3, bits(0x1p53 + 4));
        casts(LONG, DOUBLE, -(1L << 53) - 1, bits(-0x1p53));
        casts(LONG, DOUBLE, Long.MAX_VALUE, bits(0x1p63));
        casts(LONG, DOUBLE, Long.MAX_VALUE - 511, bits(0x1p63));
        casts(LONG, DOUBLE, Long.MAX_VALUE - 512, bits(0x1.fffffffffffffp62));
        casts(LONG, DOUBLE, Long.MIN_VALUE, bits(-0x1p63));
        casts(LONG, DOUBLE, Long.MIN_VALUE + 512, bits(-0x1p63));
        casts(LONG, DOUBLE, Long.MIN_VALUE + 513, bits(-0x1.fffffffffffffp62));
        casts(LONG, FLOAT, Long.MAX_VALUE, bits(0x1p63f));
        casts(LONG, FLOAT, Long.MIN_VALUE, bits(-0x1p63f));
        // Rounded once: to a double first, it would come to lie just between two floats.
        casts(LONG, FLOAT, (1L << 60) + (1L << 36) + 1, bits(0x1.000002p60f));
        castsOfRealsAreTheNearest();
    }

    private static void castsOfRealsAreTheNearest() {
        double[][] toFloat = {
            {0x1.000001p0, 1}, {0x1.0000010000001p0, 0x1.000002p0}, {0x1.0000030000000p0, 0x1.000004p0},
            {0x1.0000009p0, 1}, {0x1p-149, 0x1p-149}, {0x1p-150, 0}, {0x1.0000000000001p-150, 0x1p-149},
            {0x1.8p-149, 0x1p-148}, {0x1p-151, 0}, {Double.MIN_VALUE, 0}, {0x1.ffffffp-127, 0x1p-126},
            {0x1.fffffcp-127, 0x1.fffffcp-127}, {0.0, 0.0}, {0.1, 0.1f},
        };
        for (double[] pair : toFloat) {
            casts(DOUBLE, FLOAT, bits(pair[0]), bits((float) pair[1]));
            casts(DOUBLE, FLOAT, bits(-pair[0]), bits((float) -pair[1]));
        }
        for (float x : new float[] {0f, -0f, Float.MIN_VALUE, -Float.MAX_VALUE, 0.1f, Float.MIN_NORMAL}) {
            casts(FLOAT, DOUBLE, bits(x), bits((double) x));
            casts(FLOAT, FLOAT, bits(x), bits(x));
        }
        for (long fit : fitEnds(true)) {
            casts(DOUBLE, DOUBLE, fit, fit);
        }
        for (int exponent = -1074; exponent <= 127; exponent++) {
            double x = Math.scalb(1.0, exponent);
            casts(DOUBLE, FLOAT, bits(x), exponent < -149 ? 0 : bits((float) x));
        }
        for (int exponent = 0; exponent <= 62; exponent++) {
            casts(LONG, FLOAT, 1L << exponent, bits((float) Math.scalb(1.0, exponent)));
            casts(LONG, DOUBLE, -1L << exponent, bits(-Math.scalb(1.0, exponent)));
        }
    }

    @Says(in = "Terms", words = "(beyond all that are FIT: endless);")
    static void castBeyondAllThatAreFitIsEndless() {
        for (double sign : new double[] {1, -1}) {
            long most = bits((float) sign * Float.MAX_VALUE);
            long endless = bits((float) (sign * INFINITE));
            casts(DOUBLE, FLOAT, bits(sign * Float.MAX_VALUE), most);
            casts(DOUBLE, FLOAT, bits(sign * 0x1.fffffefffffffp127), most);
            casts(DOUBLE, FLOAT, bits(sign * 0x1.ffffffp127), endless);
            casts(DOUBLE, FLOAT, bits(sign * 0x1p128), endless);
            casts(DOUBLE, FLOAT, bits(sign * Double.MAX_VALUE), endless);
            casts(DOUBLE, FLOAT, bits(sign * INFINITE), endless);
            casts(FLOAT, FLOAT, endless, endless);
            casts(FLOAT, DOUBLE, endless, bits(sign * INFINITE));
            casts(DOUBLE, DOUBLE, bits(sign * INFINITE), bits(sign * INFINITE));
            for (int exponent = 128; exponent <= 1023; exponent++) {
                casts(DOUBLE, FLOAT, bits(sign * Math.scalb(1.0, exponent)), endless);
                casts(DOUBLE, FLOAT, bits(sign * Math.scalb(1.75, exponent)), endless);
            }
        }
    }

    @Says(in = "Terms", words = "FLOAT, DOUBLE to whole: cut toward 0,")
    static void castToWholeIsCutTowardZero() {
        double[][] cuts = {
            {0.0, 0}, {-0.0, 0}, {0.5, 0}, {-0.5, 0}, {0x1.fffffep-1, 0}, {-0x1.fffffep-1, 0}, {1, 1}, {-1, -1},
            {1.5, 1}, {-1.5, -1}, {2.5, 2}, {-2.75, -2}, {8388607.5, 8388607}, {-8388607.5, -8388607},
        };
        for (int to = INT; to <= LONG; to++) {
            for (double[] cut : cuts) {
                casts(FLOAT, to, bits((float) cut[0]), (long) cut[1]);
                casts(DOUBLE, to, bits(cut[0]), (long) cut[1]);
            }
            casts(FLOAT, to, bits(Float.MIN_VALUE), 0);
            casts(DOUBLE, to, bits(-Double.MIN_VALUE), 0);
            casts(DOUBLE, to, bits(0x1.fffffffffffffp-1), 0);
            casts(DOUBLE, to, bits(-0x1.fffffffffffffp-1), 0);
        }
        for (int exponent = -1074; exponent <= 62; exponent++) {
            long whole = exponent < 0 ? 0 : 1L << exponent;
            casts(DOUBLE, LONG, bits(Math.scalb(1.0, exponent)), whole);
            casts(DOUBLE, LONG, bits(-Math.scalb(1.0, exponent)), -whole);
            casts(FLOAT, LONG, bits((float) Math.scalb(1.0, exponent)), whole);
        }
        casts(DOUBLE, LONG, bits(0x1.fffffffffffffp51), (1L << 52) - 1);
        casts(DOUBLE, LONG, bits(-0x1.fffffffffffffp52), 1 - (1L << 53));
    }

    @Says(in = "Terms", words = "held at the ends of the INT,")
    static void castToIntIsHeldAtItsEnds() {
        casts(DOUBLE, INT, bits(2147483646.0), MOST_INT - 1);
        casts(DOUBLE, INT, bits(2147483647.0), MOST_INT);
        casts(DOUBLE, INT, bits(2147483647.5), MOST_INT);
        casts(DOUBLE, INT, bits(2147483648.0), MOST_INT);
        casts(DOUBLE, INT, bits(4294967296.0), MOST_INT);
        casts(DOUBLE, INT, bits(0x1p63), MOST_INT);
        casts(DOUBLE, INT, bits(Double.MAX_VALUE), MOST_INT);
        casts(DOUBLE, INT, bits(INFINITE), MOST_INT);
        casts(DOUBLE, INT, bits(-2147483647.0), LEAST_INT + 1);
        casts(DOUBLE, INT, bits(-2147483648.0), LEAST_INT);
        casts(DOUBLE, INT, bits(-2147483648.5), LEAST_INT);
        casts(DOUBLE, INT, bits(-2147483649.0), LEAST_INT);
        casts(DOUBLE, INT, bits(-0x1p64), LEAST_INT);
        casts(DOUBLE, INT, bits(-INFINITE), LEAST_INT);
        casts(FLOAT, INT, bits(0x1.fffffep30f), 2147483520);
        casts(FLOAT, INT, bits(0x1p31f), MOST_INT);
        casts(FLOAT, INT, bits(Float.POSITIVE_INFINITY), MOST_INT);
        casts(FLOAT, INT, bits(-0x1.fffffep30f), -2147483520);
        casts(FLOAT, INT, bits(-0x1p31f), LEAST_INT);
        casts(FLOAT, INT, bits(-0x1.000002p31f), LEAST_INT);
        casts(FLOAT, INT, bits(Float.NEGATIVE_INFINITY), LEAST_INT);
    }

    @Says(in = "Terms", words = "the LONG.")
    static void castToLongIsHeldAtItsEnds() {
        casts(DOUBLE, LONG, bits(2147483648.0), 2147483648L);
        casts(DOUBLE, LONG, bits(-2147483649.0), -2147483649L);
        casts(DOUBLE, LONG, bits(0x1.fffffffffffffp62), Long.MAX_VALUE - 1023);
        casts(DOUBLE, LONG, bits(0x1p63), Long.MAX_VALUE);
        casts(DOUBLE, LONG, bits(0x1p64), Long.MAX_VALUE);
        casts(DOUBLE, LONG, bits(Double.MAX_VALUE), Long.MAX_VALUE);
        casts(DOUBLE, LONG, bits(INFINITE), Long.MAX_VALUE);
        casts(DOUBLE, LONG, bits(-0x1.fffffffffffffp62), Long.MIN_VALUE + 1024);
        casts(DOUBLE, LONG, bits(-0x1p63), Long.MIN_VALUE);
        casts(DOUBLE, LONG, bits(-0x1.0000000000001p63), Long.MIN_VALUE);
        casts(DOUBLE, LONG, bits(-INFINITE), Long.MIN_VALUE);
        casts(FLOAT, LONG, bits(0x1.fffffep62f), 0x7fffff8000000000L);
        casts(FLOAT, LONG, bits(0x1p63f), Long.MAX_VALUE);
        casts(FLOAT, LONG, bits(Float.POSITIVE_INFINITY), Long.MAX_VALUE);
        casts(FLOAT, LONG, bits(-0x1.fffffep62f), -0x7fffff8000000000L);
        casts(FLOAT, LONG, bits(-0x1p63f), Long.MIN_VALUE);
        casts(FLOAT, LONG, bits(Float.NEGATIVE_INFINITY), Long.MIN_VALUE);
    }

    @Says(in = "Terms", words = "LEFT of x by y (y not 0): x less the whole multiple of y that is nearest to it toward 0, "
            + "exactly;")
    static void leftIsExact() {
        for (boolean fine : KINDS) {
            leaves(fine, 7, 3, 1);
            leaves(fine, 8, 3, 2);
            leaves(fine, 9, 3, 0);
            leaves(fine, 2, 3, 2);
            leaves(fine, 3, 3, 0);
            leaves(fine, inward(fine, 3), 3, inward(fine, 3));
            leaves(fine, 3, inward(fine, 3), 3 - inward(fine, 3));
            leaves(fine, 7.5, -2, 1.5);
            leaves(fine, -7.5, 2, -1.5);
            leaves(fine, 0x1p100, 7, 2);
            leaves(fine, most(fine), least(fine), 0);
            leaves(fine, most(fine), 3 * least(fine), most(fine) % (3 * least(fine)));
            leaves(fine, least(fine), most(fine), least(fine));
            leaves(fine, most(fine), inward(fine, most(fine)), most(fine) - inward(fine, most(fine)));
            leaves(fine, 5 * least(fine), 3 * least(fine), 2 * least(fine));
        }
        leaves(true, 1, 0.1, 1.0 % 0.1);
        leaves(false, 1, 0.1, 1f % 0.1f);
    }

    @Says(in = "Terms", words = "with the sign of x, of a 0 too")
    static void leftHasTheSignOfX() {
        for (boolean fine : KINDS) {
            for (double y : new double[] {3, -3}) {
                leaves(fine, 7, y, 1);
                leaves(fine, -7, y, -1);
                leaves(fine, 6, y, 0.0);
                leaves(fine, -6, y, -0.0);
                leaves(fine, 0.0, y, 0.0);
                leaves(fine, -0.0, y, -0.0);
                leaves(fine, -2, y, -2);
            }
        }
    }

    @Says(in = "Terms", words = "(y endless: x).")
    static void leftByWhatIsEndlessIsX() {
        for (boolean fine : KINDS) {
            for (double y : new double[] {INFINITE, -INFINITE}) {
                for (long x : fitEnds(fine)) {
                    leaves(fine, number(fine, x), y, number(fine, x));
                }
                leaves(fine, -5, y, -5);
            }
        }
    }

    @Says(in = "Terms", words = "2 DIALS, 12 at most, numbered as they come,")
    static void dialsAreTwelveAtMost() {
        OrreryDials x = new OrreryDials();
        for (int i = 0; i < 12; i++) {
            due(x, fine(i), UNKNOWN);
            due(x, dial(i % 3 == 0, bits(i % 3 == 0, i + 1)), i);
        }
        due(x, dial(false, bits(1f)), FULL);
        due(x, dial(true, bits(1.0)), FULL);
        due(x, about(0), 12);
        for (int i = 0; i < 12; i++) {
            due(x, place(i, 1), bits(i % 3 == 0, i + 1));
        }
        due(x, fine(12), UNKNOWN);
    }

    @Says(in = "Terms", words = "are FINE (DOUBLE) or not (FLOAT);")
    static void dialsAreFineOrNot() {
        OrreryDials x = Orrery.dials(0.1);
        due(x, fine(0), 0);
        due(x, fine(1), 1);
        due(x, place(0, 1), bits(0.1f));
        due(x, place(1, 1), bits(0.1));
        // Not FIT as the one kind, FIT as the other.
        due(x, dial(false, 0x7f800000L), OUTSIDE);
        due(x, dial(true, 0x7f800000L), 2);
        due(x, dial(true, 0x7ff000003f800000L), OUTSIDE);
        due(x, dial(false, 0x7ff000003f800000L), 3);
    }

    @Says(in = "Terms", words = "each has a RIM (of its KIND, FIT, not 0;")
    static void aRimIsFitAndNotZero() {
        for (boolean fine : KINDS) {
            for (long rim : fitEnds(fine)) {
                OrreryDials x = new OrreryDials();
                boolean taken = number(fine, rim) != 0;
                due(x, dial(fine, rim), taken ? 0 : OUTSIDE);
                due(x, place(0, 1), taken ? rim : 0);
            }
            for (long rim : unfit(fine)) {
                due(new OrreryDials(), dial(fine, rim), OUTSIDE);
            }
        }
    }

    @Says(in = "Terms", words = "its sign does not matter for what is LEFT),")
    static void theSignOfARimDoesNotMatterForWhatIsLeft() {
        for (boolean fine : KINDS) {
            for (double rim : new double[] {2.5, -2.5}) {
                OrreryDials x = dialOf(fine, rim);
                turns(x, fine, 9, 1.5, rim < 0 ? -3 : 3);
                turns(x, fine, -9, -0.0, 0);
                turns(x, fine, -9, -1.5, rim < 0 ? 3 : -3);
                x.log(0, fine, 1);
                x.write(0, fine, 0, bits(fine, -6));
                due(x, recall(0, fine, 0, 0), 1);
                due(x, place(0, 0), bits(fine, -1));
            }
        }
    }

    @Says(in = "Terms", words = "a PLACE (0.0 at first), LAPS (a LONG, 0 at first).")
    static void placeAndLapsAreZeroAtFirst() {
        for (boolean fine : KINDS) {
            OrreryDials x = dialOf(fine, -3);
            due(x, place(0, 0), 0);
            due(x, laps(0), 0);
            // More than an int holds.
            due(x, turn(0, bits(fine, -3 * 0x1p40)), 1);
            due(x, laps(0), 1L << 40);
        }
    }

    @Says(in = "Terms", words = "TURNED by a (of its KIND, FIT): s is PLACE + a;")
    static void turnedIsPlaceAndWhatItIsTurnedBy() {
        for (boolean fine : KINDS) {
            OrreryDials x = dialOf(fine, 10);
            turns(x, fine, 3, 3, 0);
            turns(x, fine, 4.5, 7.5, 0);
            turns(x, fine, -8, -0.5, 0);
            turns(x, fine, 0.5, 0.0, 0);
            turns(x, fine, -0.0, 0.0, 0);
            turns(x, fine, -10, -0.0, -1);
            turns(x, fine, -0.0, -0.0, -1);
            turns(x, fine, 0.0, 0.0, -1);
            turns(x, fine, least(fine), least(fine), -1);
            turns(x, fine, -least(fine), 0.0, -1);
        }
    }

    @Says(in = "Terms", words = "if s is endless, ENDLESS, and nothing is done;")
    static void turnedEndlesslyNothingIsDone() {
        for (boolean fine : KINDS) {
            int dial = fine ? 3 : 2;
            long first = bits(fine, fine ? 0x1.ffffffffffffep1021 : 0x1.fffffcp125);
            fails(ENDLESS, turn(dial, first));
            does(1, turn(dial, first - 1), s -> s.to("place(" + dial + ", 0)", 0).to("laps(" + dial + ")", 1));
            ends(0, ENDLESS, spin(dial, first, 40), s -> s);
            // From 0 the most there is can be turned by, again and again.
            OrreryDials x = dialOf(fine, 2);
            due(x, spin(0, bits(fine, most(fine)), 40), 40);
            due(x, place(0, 0), 0);
        }
    }

    @Says(in = "Terms", words = "else LAPS become more by s by RIM, CAST to a LONG")
    static void lapsBecomeMoreBySByRim() {
        for (boolean fine : KINDS) {
            OrreryDials x = dialOf(fine, 4);
            turns(x, fine, 3.5, 3.5, 0);
            turns(x, fine, 0.5, 0, 1);
            turns(x, fine, 7.5, 3.5, 2);
            turns(x, fine, -11, -3.5, 1);
            turns(x, fine, -0.5, -0.0, 0);
            // Held at the ends of the LONG, where s by RIM is beyond it or endless.
            for (double sign : new double[] {1, -1}) {
                long end = sign < 0 ? Long.MIN_VALUE : Long.MAX_VALUE;
                turns(dialOf(fine, sign), fine, 0x1p62, 0, sign < 0 ? -(1L << 62) : 1L << 62);
                turns(dialOf(fine, sign), fine, 0x1p63, 0, end);
                turns(dialOf(fine, sign), fine, 0x1p64, 0, end);
                turns(dialOf(fine, sign * least(fine)), fine, most(fine), 0, end);
                turns(dialOf(fine, sign * least(fine)), fine, 1, 0, end);
                turns(dialOf(fine, sign * 0.5), fine, -most(fine), -0.0, sign < 0 ? Long.MAX_VALUE : Long.MIN_VALUE);
            }
            turns(dialOf(fine, most(fine)), fine, least(fine), least(fine), 0);
            turns(dialOf(fine, least(fine)), fine, least(fine), 0, 1);
            turns(dialOf(fine, -least(fine)), fine, 7 * least(fine), 0, -7);
            turns(dialOf(fine, 2 * least(fine)), fine, 3 * least(fine), least(fine), 1);
        }
    }

    @Says(in = "Terms", words = "(they go round),")
    static void lapsGoRound() {
        for (boolean fine : KINDS) {
            OrreryDials x = dialOf(fine, 1);
            turns(x, fine, 0x1p63, 0, Long.MAX_VALUE);
            turns(x, fine, 1, 0, Long.MIN_VALUE);
            turns(x, fine, 1, 0, Long.MIN_VALUE + 1);
            turns(x, fine, -2, -0.0, Long.MAX_VALUE);
            turns(x, fine, 0x1p63, 0, -2);
            turns(x, fine, -0x1p63, -0.0, Long.MAX_VALUE - 1);
            OrreryDials y = dialOf(fine, 1);
            turns(y, fine, -0x1p63, -0.0, Long.MIN_VALUE);
            turns(y, fine, -1, -0.0, Long.MAX_VALUE);
            OrreryDials z = dialOf(fine, 1);
            due(z, spin(0, bits(fine, 0x1p63), 2), 2);
            due(z, laps(0), -2);
        }
    }

    @Says(in = "Terms", words = "and PLACE what is LEFT of s by RIM.")
    static void placeBecomesWhatIsLeft() {
        for (boolean fine : KINDS) {
            OrreryDials x = dialOf(fine, 2.5);
            turns(x, fine, 2.5, 0, 1);
            turns(x, fine, inward(fine, 2.5), inward(fine, 2.5), 1);
            OrreryDials y = dialOf(fine, 7);
            turns(y, fine, 0x1p24, 1, (1L << 24) / 7);
            turns(y, fine, -3, -2, (1L << 24) / 7);
            turns(y, fine, -5, -0.0, (1L << 24) / 7 - 1);
            OrreryDials z = dialOf(fine, most(fine));
            turns(z, fine, most(fine), 0, 1);
            turns(z, fine, -most(fine), -0.0, 0);
        }
    }

    @Says(in = "Terms", words = "3 DRIVES, 20 at most, numbered as they come,")
    static void drivesAreTwentyAtMost() {
        OrreryDials x = new OrreryDials();
        for (int i = 0; i < 20; i++) {
            due(x, pulls(i), UNKNOWN);
            due(x, drive(i % 3, bits(i - 10.0)), i);
        }
        for (int sort = SPRING; sort <= FLYWHEEL; sort++) {
            due(x, drive(sort, 0), FULL);
        }
        due(x, about(1), 20);
        due(x, pulls(19), 0);
        due(x, pulls(20), UNKNOWN);
        due(x, dial(true, bits(100.0)), 0);
        for (int i = 0; i < 20; i++) {
            long before = x.place(0, 0);
            due(x, fit(0, i), 1);
            due(x, pull(0, 0), 1);
            double by = i % 3 == 0 ? i - 10 - Double.longBitsToDouble(before) : i - 10;
            due(x, place(0, 0), bits(Double.longBitsToDouble(before) + by));
            due(x, pulls(i), 1);
        }
    }

    @Says(in = "Terms", words = "have a PULL (a DOUBLE, FIT):")
    static void aPullIsAFitDouble() {
        for (int sort = SPRING; sort <= FLYWHEEL; sort++) {
            for (long pull : unfit(true)) {
                due(new OrreryDials(), drive(sort, pull), OUTSIDE);
            }
            for (long pull : fitEnds(true)) {
                due(new OrreryDials(), drive(sort, pull), 0);
            }
            pullsTo(drivenBy(true, 1e6, sort, 0.1), true, 0.1);
            pullsTo(drivenBy(true, 1e6, sort, -Double.MIN_VALUE), true, -Double.MIN_VALUE);
        }
    }

    @Says(in = "Terms", words = "a SPRING pulls by PULL less the PLACE (as a DOUBLE),")
    static void aSpringPullsByPullLessThePlace() {
        for (boolean fine : KINDS) {
            OrreryDials x = drivenBy(fine, 100, SPRING, 7.5);
            pullsTo(x, fine, 7.5);
            pullsTo(x, fine, 7.5);
            x.turn(0, bits(fine, -20));
            pullsTo(x, fine, 7.5);
            due(x, laps(0), 0);
            OrreryDials less = drivenBy(fine, 100, SPRING, -7.5);
            less.turn(0, bits(fine, 3));
            pullsTo(less, fine, -7.5);
            // -0.0 less -0.0 is 0.0.
            pullsTo(drivenBy(fine, 100, SPRING, 0.0), fine, 0.0);
            OrreryDials zero = drivenBy(fine, 1, SPRING, -0.0);
            zero.turn(0, bits(fine, -1));
            pullsTo(zero, fine, 0.0);
        }
        OrreryDials coarse = drivenBy(false, 100, SPRING, 1e-9);
        coarse.turn(0, bits(1f));
        pullsTo(coarse, false, 1f + (float) (1e-9 - 1.0));
    }

    @Says(in = "Terms", words = "a CRANK by PULL times its GEAR (an int, 1 at first),")
    static void aCrankPullsByPullTimesItsGear() {
        for (boolean fine : KINDS) {
            OrreryDials x = drivenBy(fine, 1e6, CRANK, 2.5);
            pullsTo(x, fine, 2.5);
            due(x, gear(0, 1000), 1);
            pullsTo(x, fine, 2502.5);
            due(x, gear(0, -1000), 1000);
            pullsTo(x, fine, 2.5);
            due(x, gear(0, 0), -1000);
            pullsTo(x, fine, 2.5);
            due(x, gear(0, -1), 0);
            pullsTo(x, fine, 0);
            // -2.5 times 0 is -0.0, and -0.0 it stays where a dial stands at that.
            OrreryDials back = drivenBy(fine, 1, CRANK, -2.5);
            back.turn(0, bits(fine, -1));
            back.gear(0, 0);
            pullsTo(back, fine, -0.0);
            OrreryDials on = drivenBy(fine, 1, CRANK, 2.5);
            on.turn(0, bits(fine, -1));
            on.gear(0, 0);
            pullsTo(on, fine, 0.0);
            OrreryDials still = drivenBy(fine, 1, CRANK, 0.0);
            still.turn(0, bits(fine, -1));
            still.gear(0, -1);
            pullsTo(still, fine, -0.0);
            still.gear(0, 1);
            pullsTo(still, fine, 0.0);
        }
    }

    @Says(in = "Terms", words = "a FLYWHEEL (an heir of CRANK) by that and PULL times how often it pulled before, "
            + "together.")
    static void aFlywheelPullsByMoreEachTime() {
        for (boolean fine : KINDS) {
            OrreryDials x = drivenBy(fine, 1e6, FLYWHEEL, 2);
            pullsTo(x, fine, 2);
            pullsTo(x, fine, 2 + 4);
            pullsTo(x, fine, 2 + 4 + 6);
            due(x, gear(0, -3), 1);
            pullsTo(x, fine, 12);
            pullsTo(x, fine, 14);
            due(x, gear(0, 0), -3);
            pullsTo(x, fine, 24);
            due(x, pulls(0), 6);
            // An heir of CRANK: it has a gear, and SHAFT 1 takes it.
            due(x, lay(1, 0, 0), 1);
        }
        // What it pulls by is reckoned in parts, each to the nearest; from 0.0 on it is seen to its last bit.
        OrreryDials parts = drivenBy(true, 1e6, FLYWHEEL, 1.3);
        parts.gear(0, -3);
        parts.log(0, true, 1);
        for (int before = 0; before < 40; before++) {
            pullsTo(parts, true, 1.3 * -3 + 1.3 * before);
            due(parts, recall(0, true, 0, 0), 1);
        }
    }

    @Says(in = "Terms", words = "What a DRIVE pulls by comes to a DIAL CAST to its KIND.")
    static void whatADrivePullsByIsCast() {
        for (int sort = SPRING; sort <= FLYWHEEL; sort++) {
            pullsTo(drivenBy(false, 1e6, sort, 0.1), false, 0.1f);
            pullsTo(drivenBy(true, 1e6, sort, 0.1), true, 0.1);
            pullsTo(drivenBy(false, 1e6, sort, 0x1.000001p0), false, 1);
            pullsTo(drivenBy(false, 1e6, sort, 0x1.0000010000001p0), false, 0x1.000002p0);
            pullsTo(drivenBy(false, 1e6, sort, 1e-60), false, 0);
            pullsTo(drivenBy(false, 3, sort, 0x1.fffffefffffffp127), false, Float.MAX_VALUE % 3f);
            due(drivenBy(false, 3, sort, 0x1.ffffffp127), pull(0, 0), ENDLESS);
        }
    }

    @Says(in = "Terms", words = "SLOTS 0 .. 5 hold a DRIVE or none (at first).")
    static void slotsAreSixAndEmptyAtFirst() {
        OrreryDials x = Orrery.dials(1);
        for (int slot = 0; slot < 6; slot++) {
            due(x, pull(slot, 0), NULL);
            due(x, gear(slot, 1), NULL);
        }
        for (int slot = 0; slot < 6; slot++) {
            due(x, drive(CRANK, bits(1.0)), slot);
            due(x, fit(slot, slot), 1);
        }
        for (int slot = 0; slot < 6; slot++) {
            due(x, lay(0, 0, slot), 1);
            due(x, laid(0, 0), slot);
        }
        for (int slot : NO_SLOTS) {
            due(x, fit(slot, 0), UNKNOWN);
            due(x, pull(slot, 0), UNKNOWN);
            due(x, gear(slot, 0), UNKNOWN);
            due(x, lay(0, 0, slot), UNKNOWN);
        }
    }

    @Says(in = "Terms", words = "SHAFTS 0, 1 are rows of four places, with a DRIVE or none (at first):")
    static void shaftsAreTwoOfFourPlacesAndEmptyAtFirst() {
        OrreryDials x = Orrery.dials(1);
        for (int i = 0; i < 8; i++) {
            due(x, laid(i / 4, i % 4), NONE);
        }
        for (int i = 0; i < 8; i++) {
            due(x, drive(CRANK, bits(1.0)), i);
            due(x, fit(0, i), 1);
            due(x, lay(i / 4, i % 4, 0), 1);
        }
        for (int i = 0; i < 8; i++) {
            due(x, laid(i / 4, i % 4), i);
        }
        for (int shaft : NO_SHAFTS) {
            due(x, laid(shaft, 0), UNKNOWN);
            due(x, lay(shaft, 0, 0), UNKNOWN);
            due(x, wind(shaft, 0), UNKNOWN);
        }
        for (int i : NO_SHAFT_PLACES) {
            for (int shaft = 0; shaft < 2; shaft++) {
                due(x, laid(shaft, i), PLACE);
                due(x, lay(shaft, i, 0), PLACE);
            }
        }
    }

    @Says(in = "Terms", words = "SHAFT 0 for all, SHAFT 1 for CRANKS (FLYWHEELS too).")
    static void shaftOneIsForCranks() {
        for (int sort = SPRING; sort <= FLYWHEEL; sort++) {
            for (int i = 0; i < 4; i++) {
                OrreryDials x = drivenBy(true, 1, sort, 1);
                due(x, lay(0, i, 0), 1);
                due(x, laid(0, i), 0);
                due(x, lay(1, i, 0), sort == SPRING ? STORE : 1);
                due(x, laid(1, i), sort == SPRING ? NONE : 0);
                due(x, lay(1, i, 1), 1);
                due(x, laid(1, i), NONE);
            }
        }
    }

    @Says(in = "Terms", words = "4 LOGS 0 .. 7 have a row of floats and a row of doubles,")
    static void logsAreEightOfTwoRows() {
        OrreryDials x = new OrreryDials();
        for (int log = 0; log < 8; log++) {
            for (boolean fine : KINDS) {
                due(x, log(log, fine, 1), 1);
                due(x, write(log, fine, 0, bits(fine, fine ? -log : log + 0.5)), 1);
            }
        }
        for (int log = 0; log < 8; log++) {
            for (boolean fine : KINDS) {
                due(x, read(log, fine, 0), 1);
                due(x, seen(), bits(fine, fine ? -log : log + 0.5));
            }
        }
        for (int log : NO_LOGS) {
            for (boolean fine : KINDS) {
                due(x, log(log, fine, 1), UNKNOWN);
                due(x, write(log, fine, 0, 0), UNKNOWN);
                due(x, read(log, fine, 0), UNKNOWN);
                due(x, sift(log, fine, 0), UNKNOWN);
            }
        }
    }

    @Says(in = "Terms", words = "each of 0 .. 16 places (0.0 at first)")
    static void rowsAreOfSixteenPlacesAtMost() {
        for (boolean fine : KINDS) {
            for (int n = 0; n <= 16; n++) {
                OrreryDials x = new OrreryDials();
                due(x, log(3, fine, n), 1);
                for (int i = 0; i < n; i++) {
                    due(x, write(3, fine, i, bits(fine, i + 1)), 1);
                }
                due(x, write(3, fine, n, bits(fine, 1)), PLACE);
                due(x, sift(3, fine, 0), n);
                due(x, log(3, fine, n), 1);
                due(x, cast(LONG, LONG, 1), 1);
                for (int i = 0; i < n; i++) {
                    due(x, read(3, fine, i), 1);
                    due(x, seen(), 0);
                }
            }
            due(new OrreryDials(), log(3, fine, 17), OUTSIDE);
        }
    }

    @Says(in = "Terms", words = "or MISSING (both at first).")
    static void rowsAreMissingAtFirst() {
        OrreryDials x = Orrery.dials(1);
        for (int log = 0; log < 8; log++) {
            for (boolean fine : KINDS) {
                due(x, read(log, fine, 0), NULL);
                due(x, write(log, fine, 0, 0), NULL);
                due(x, note(log, fine, 0, 0), NULL);
                due(x, recall(log, fine, 0, 0), NULL);
                due(x, sift(log, fine, 0), NULL);
            }
        }
        due(x, log(3, false, 0), 1);
        due(x, read(3, false, 0), PLACE);
        due(x, read(3, true, 0), NULL);
        due(x, log(3, false, NONE), 1);
        due(x, read(3, false, 0), NULL);
    }

    // ---- failures and refusals

    @Says(in = "Terms", words = "FAILURES are answers: NULL (a row is MISSING, no DRIVE is there), PLACE (no such place), "
            + "CAST, STORE, ENDLESS.")
    static void failuresAreAnswers() {
        fails(NULL, pull(4, 0));
        fails(NULL, gear(4, 1));
        fails(NULL, write(3, true, 0, 0));
        fails(NULL, read(3, true, 0));
        fails(NULL, note(3, true, 0, 0));
        fails(NULL, recall(3, true, 0, 0));
        fails(NULL, sift(3, true, 0));
        fails(PLACE, lay(0, 4, 1));
        fails(PLACE, laid(0, 4));
        fails(PLACE, write(0, true, 2, 0));
        fails(PLACE, read(0, true, 2));
        fails(PLACE, note(0, true, 2, 0));
        fails(PLACE, recall(0, true, 2, 0));
        fails(CAST, gear(0, 1));
        fails(STORE, lay(1, 0, 0));
        fails(ENDLESS, turn(3, bits(Double.MAX_VALUE)));
        fails(ENDLESS, recall(0, true, 0, 0));
        ends(ENDLESS, ENDLESS, pull(3, 0), s -> s.more("pulls(3)", 1));
    }

    @Says(in = "Terms", words = "Refusals come ahead of them:")
    static void refusalsComeAheadOfFailures() {
        // Each would fail if it were not refused.
        long far = bits(0x1p127f);
        refused(OUTSIDE, turn(2, bits(Float.POSITIVE_INFINITY)));
        refused(OUTSIDE, spin(2, far, 41));
        refused(UNKNOWN, pull(4, 4));
        refused(UNKNOWN, pull(4, -1));
        refused(OUTSIDE, gear(4, 1001));
        refused(OUTSIDE, gear(0, -1001));
        refused(UNKNOWN, lay(0, 4, 6));
        refused(UNKNOWN, lay(2, 4, 0));
        refused(UNKNOWN, lay(2, 0, 0));
        refused(UNKNOWN, wind(0, 4));
        leavesAll(after(lay(0, 0, 4)), UNKNOWN, wind(0, 4));
        refused(UNKNOWN, laid(2, 4));
        for (boolean fine : KINDS) {
            long endless = bits(fine, INFINITE);
            refused(UNKNOWN, write(8, fine, 16, 0));
            refused(OUTSIDE, write(3, fine, 0, endless));
            refused(OUTSIDE, write(0, fine, 3, endless));
            refused(OUTSIDE, write(0, fine, -1, endless));
            refused(UNKNOWN, read(8, fine, 16));
            refused(UNKNOWN, note(3, fine, 0, 4));
            refused(UNKNOWN, note(0, fine, 3, 4));
            refused(UNKNOWN, recall(3, fine, 0, 4));
            refused(UNKNOWN, recall(0, fine, 3, 4));
            refused(OUTSIDE, sift(3, fine, endless));
        }
    }

    @Says(in = "Terms", words = "UNKNOWN (a number names nothing), OUTSIDE (not as told), FULL;")
    static void refusalsAreUnknownOutsideAndFull() {
        refused(UNKNOWN, turn(4, 0));
        refused(UNKNOWN, fit(0, 4));
        refused(UNKNOWN, fit(6, 0));
        refused(UNKNOWN, laid(2, 0));
        refused(UNKNOWN, read(8, true, 0));
        refused(OUTSIDE, dial(true, 0));
        refused(OUTSIDE, drive(3, 0));
        refused(OUTSIDE, gear(1, 1001));
        refused(OUTSIDE, about(7));
        leavesAll(Orrery::full, FULL, dial(true, bits(1.0)));
        leavesAll(Orrery::full, FULL, drive(0, 0));
    }

    @Says(in = "Terms", words = "of several the one told first.")
    static void ofSeveralRefusalsTheFirstIsAnswered() {
        for (boolean fine : KINDS) {
            leavesAll(Orrery::full, OUTSIDE, dial(fine, bits(fine, 0.0)));
            leavesAll(Orrery::full, OUTSIDE, dial(fine, bits(fine, INFINITE)));
            refused(UNKNOWN, write(8, fine, 0, bits(fine, INFINITE)));
            refused(UNKNOWN, sift(8, fine, bits(fine, INFINITE)));
            refused(UNKNOWN, log(8, fine, 17));
            refused(UNKNOWN, log(-1, fine, -2));
            // And of several failures, too.
            fails(NULL, write(3, fine, 16, 0));
            fails(NULL, write(3, fine, -1, 0));
            fails(NULL, read(3, fine, 16));
            fails(NULL, read(3, fine, -1));
            fails(NULL, note(3, fine, 16, 0));
            fails(NULL, note(3, fine, -1, 0));
            fails(NULL, recall(3, fine, 16, 0));
            fails(NULL, recall(3, fine, -1, 0));
        }
        leavesAll(Orrery::full, OUTSIDE, drive(3, 0));
        leavesAll(Orrery::full, OUTSIDE, drive(0, bits(INFINITE)));
        refused(UNKNOWN, turn(4, -1));
        refused(UNKNOWN, spin(4, -1, 41));
        refused(UNKNOWN, spin(4, 0, -1));
        refused(UNKNOWN, gear(6, 1001));
        fails(PLACE, lay(1, 4, 0));
        fails(PLACE, lay(1, -1, 0));
    }

    @Says(in = "Terms", words = "What is refused or FAILS changes nothing (but what tells of FAILURES).")
    static void whatIsRefusedOrFailsChangesNothing() {
        Call[] refusals = {
            dial(false, 0), turn(1, -1), spin(1, -1, 5), drive(0, -1), fit(0, 4), pull(0, 4), gear(1, 1001),
            lay(0, 0, 6), wind(1, 4), laid(2, 0), log(0, true, 17), write(0, true, 0, -1), read(8, true, 0),
            note(0, true, 0, 4), recall(0, true, 0, 4), sift(0, true, -1), cast(DOUBLE, INT, -1), cast(1, 4, 5),
            left(true, -1, bits(1.0)), left(true, bits(5.0), 0), about(7), fine(4), pulls(4),
        };
        for (Call call : refusals) {
            long answer = call.on(Orrery.busy(0));
            due("refused: " + call.text(), answer == UNKNOWN || answer == OUTSIDE ? 1 : 0, 1);
            refused((int) answer, call);
        }
        Call[] failures = {
            turn(2, bits(0x1p127f)), turn(3, bits(0x1p1023)), pull(4, 1), gear(4, 3), gear(0, 3), lay(0, 4, 4),
            lay(1, 0, 0), laid(1, 4), write(0, true, 2, 0), write(3, true, 0, 0), read(0, true, 2), read(3, true, 0),
            note(0, true, 2, 0), note(3, true, 0, 0), recall(0, true, 2, 0), recall(3, true, 0, 0),
            recall(0, true, 0, 0), sift(3, true, bits(5.0)),
        };
        for (Call call : failures) {
            fails((int) call.on(Orrery.busy(0)), call);
        }
    }
}

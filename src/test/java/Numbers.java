/** Numbers without a pattern but the same every time, many of them at the ends of their kinds. */
final class Numbers {
    private static final double[] DOUBLES = {
        0.0, -0.0, 1.0, -1.0, 0.5, -2.5, 3.0, 7.0, 10.0, 360.0, -360.0, 0.1, 1e17, 1e19, -1e19, 1e100,
        Double.MAX_VALUE, -Double.MAX_VALUE, Double.MIN_VALUE, -Double.MIN_VALUE, Double.MIN_NORMAL,
        Math.nextDown(Double.MIN_NORMAL), 0x1p-1000, 0x1p1023, 0x1p63, -0x1p63, 0x1.fffffffffffffp62,
        0x1p31, 0x1.fffffffcp30, 0x1.fffffep127, 0x1.fffffefffffffp127, 0x1.ffffffp127, 0x1p128,
        0x1p-149, 0x1p-150, 0x1.0000000000001p-150, 0x1.8p-149, 0x1.8p-148, 0x1.fffffep-127,
        0x1.ffffffp-127, 0x1.000001p0, 0x1.000003p0, 0x1.0000010000001p0, 16777217.0,
        Double.POSITIVE_INFINITY, Double.NEGATIVE_INFINITY, Double.NaN,
    };
    private static final float[] FLOATS = {
        0.0f, -0.0f, 1.0f, -1.0f, 0.5f, -2.5f, 3.0f, 7.0f, 10.0f, 360.0f, -360.0f, 0.1f, 1e17f, 1e19f,
        -1e19f, 1e30f, Float.MAX_VALUE, -Float.MAX_VALUE, Float.MIN_VALUE, -Float.MIN_VALUE,
        Float.MIN_NORMAL, Math.nextDown(Float.MIN_NORMAL), 0x1p-100f, 0x1p127f, 0x1p63f, -0x1p63f,
        0x1p31f, -0x1p31f, 0x1.fffffep30f, 0x1.fffffep62f, 16777216.0f,
        Float.POSITIVE_INFINITY, Float.NEGATIVE_INFINITY, Float.NaN,
    };
    private static final long[] WHOLES = {
        0, 1, -1, 2, 100, 16777216, 16777217, -16777219, 33554435, Integer.MAX_VALUE, Integer.MIN_VALUE,
        0x80000000L, 0xffffffffL, 0x100000000L, 1L << 53, (1L << 53) + 1, (1L << 53) + 3, (1L << 54) + 2,
        (1L << 54) + 6, (1L << 40) + (1L << 16), (1L << 40) + (1L << 16) + 1, Long.MAX_VALUE,
        Long.MAX_VALUE - 511, Long.MAX_VALUE - 512, Long.MIN_VALUE, Long.MIN_VALUE + 1, Long.MIN_VALUE + 513,
    };

    private long state;

    Numbers(long seed) {
        state = seed;
    }

    static int doubleEnds() {
        return DOUBLES.length;
    }

    static long doubleEnd(int i) {
        return Due.bits(DOUBLES[i]);
    }

    static int floatEnds() {
        return FLOATS.length;
    }

    static long floatEnd(int i) {
        return Due.bits(FLOATS[i]);
    }

    static int wholeEnds() {
        return WHOLES.length;
    }

    static long wholeEnd(int i) {
        return WHOLES[i];
    }

    long bits() {
        state = state * 6364136223846793005L + 1442695040888963407L;
        long mixed = (state ^ (state >>> 32)) * 0x9e3779b97f4a7c15L;
        return mixed ^ (mixed >>> 29);
    }

    /** From 0 up to n, without n. */
    int below(int n) {
        return (int) Long.remainderUnsigned(bits(), n);
    }

    boolean coin() {
        return below(2) == 0;
    }

    /** Bits of a float or double (a float's upper half is now and then filled with what does not matter). */
    long real(boolean fine) {
        long x = fine ? doubleBits() : floatBits();
        return !fine && below(8) == 0 ? (x & 0xffffffffL) | (bits() << 32) : x;
    }

    long whole() {
        int sort = below(3);
        if (sort == 0) {
            return wholeEnd(below(WHOLES.length)) + below(5) - 2;
        }
        return sort == 1 ? bits() >> below(64) : bits();
    }

    private long doubleBits() {
        switch (below(6)) {
            case 0: return doubleEnd(below(DOUBLES.length));
            case 1: return bits();
            case 2: return Due.bits((double) (below(20001) - 10000) / 8);
            case 3: return Due.bits((double) Float.intBitsToFloat((int) bits())) + below(3) - 1;
            case 4: return doubleEnd(below(DOUBLES.length)) + below(5) - 2;
            default: return Due.bits((bits() >> below(60)) * 0x1p-20);
        }
    }

    private long floatBits() {
        switch (below(5)) {
            case 0: return floatEnd(below(FLOATS.length));
            case 1: return (int) bits();
            case 2: return Due.bits((float) (below(20001) - 10000) / 8);
            case 3: return (int) (floatEnd(below(FLOATS.length)) + below(5) - 2);
            default: return Due.bits((bits() >> below(60)) * 0x1p-20f);
        }
    }
}

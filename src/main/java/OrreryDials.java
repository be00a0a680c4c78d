/**
 * Dials of an orrery, the drives that wind them and the logs of where they stood.
 *
 * <p>The document (DOC.md) says what every call does, as numbered promises. No call throws.
 */
public final class OrreryDials {
    public static final int NONE = -1, NULL = -11, PLACE = -12, CAST = -13, STORE = -14,
            ENDLESS = -15, UNKNOWN = -101, OUTSIDE = -102, FULL = -103;

    private static final int INT = 0, LONG = 1, FLOAT = 2, DOUBLE = 3;
    private static final int SPRING = 0, CRANK = 1, FLYWHEEL = 2;
    private static final int MOST_DIALS = 12, MOST_DRIVES = 20, MOST_TURNS = 40, MOST_GEAR = 1000;
    private static final int SLOTS = 6, SHAFTS = 2, SHAFT_PLACES = 4, CRANK_SHAFT = 1;
    private static final int LOGS = 8, ROW_PLACES = 16, FAILURE_KINDS = 5;

    private final Dial[] dials = new Dial[MOST_DIALS];
    private int dialCount = 0;
    private final Drive[] drives = new Drive[MOST_DRIVES];
    private int driveCount = 0;
    private final Drive[] slots = new Drive[SLOTS];
    /** Both shafts, one behind the other. */
    private final Drive[] shaftPlaces = new Drive[SHAFTS * SHAFT_PLACES];
    /** Of each log its row of floats, then its row of doubles. */
    private final Row[] rows = new Row[2 * LOGS];
    private long seenBits = 0;
    private int latestFailure = 0;
    /** From NULL down to ENDLESS. */
    private final int[] failureCounts = new int[FAILURE_KINDS];

    public OrreryDials() {
        for (int i = 0; i < rows.length; i++) {
            rows[i] = new Row();
        }
    }

    // ---- dials

    public int dial(boolean fine, long rim) {
        long told = Reals.told(fine, rim);
        if (!Reals.isFit(fine, told) || Reals.isZero(fine, told)) {
            return OUTSIDE;
        }
        if (dialCount >= MOST_DIALS) {
            return FULL;
        }
        dials[dialCount] = new Dial(fine, told);
        return dialCount++;
    }

    public int turn(int dial, long a) {
        Dial turned = dialAt(dial);
        if (turned == null) {
            return UNKNOWN;
        }
        long by = Reals.told(turned.fine, a);
        if (!Reals.isFit(turned.fine, by)) {
            return OUTSIDE;
        }
        return turned.turnBy(by) ? done(1) : failWith(ENDLESS);
    }

    public int spin(int dial, long a, int n) {
        Dial turned = dialAt(dial);
        if (turned == null) {
            return UNKNOWN;
        }
        long by = Reals.told(turned.fine, a);
        if (!Reals.isFit(turned.fine, by) || n < 0 || n > MOST_TURNS) {
            return OUTSIDE;
        }
        for (int times = 0; times < n; times++) {
            if (!turned.turnBy(by)) {
                failWith(ENDLESS);
                return times;
            }
        }
        return done(n);
    }

    public long place(int dial, int what) {
        Dial asked = dialAt(dial);
        if (asked == null) {
            return 0;
        }
        if (what == 0) {
            return asked.place;
        }
        return what == 1 ? asked.rim : 0;
    }

    public long laps(int dial) {
        Dial asked = dialAt(dial);
        return asked == null ? 0 : asked.laps;
    }

    public int fine(int dial) {
        Dial asked = dialAt(dial);
        if (asked == null) {
            return UNKNOWN;
        }
        return asked.fine ? 1 : 0;
    }

    // ---- drives

    public int drive(int sort, long pull) {
        if (sort < SPRING || sort > FLYWHEEL || !Reals.isFit(true, pull)) {
            return OUTSIDE;
        }
        if (driveCount >= MOST_DRIVES) {
            return FULL;
        }
        drives[driveCount] = newDrive(sort, driveCount, pull);
        return driveCount++;
    }

    public int fit(int slot, int drive) {
        Drive fitted = driveAt(drive);
        if (!isSlot(slot) || (fitted == null && drive != NONE)) {
            return UNKNOWN;
        }
        slots[slot] = fitted;
        return 1;
    }

    public int pull(int slot, int dial) {
        Dial turned = dialAt(dial);
        if (!isSlot(slot) || turned == null) {
            return UNKNOWN;
        }
        Drive drive = slots[slot];
        if (drive == null) {
            return failWith(NULL);
        }
        return drive.pullAt(turned) ? done(1) : failWith(ENDLESS);
    }

    public int gear(int slot, int g) {
        if (!isSlot(slot)) {
            return UNKNOWN;
        }
        if (g < -MOST_GEAR || g > MOST_GEAR) {
            return OUTSIDE;
        }
        Drive drive = slots[slot];
        if (drive == null) {
            return failWith(NULL);
        }
        if (drive instanceof Crank crank) {
            int before = crank.gear;
            crank.gear = g;
            return done(before);
        }
        return failWith(CAST);
    }

    public int lay(int shaft, int i, int slot) {
        if (!isShaft(shaft) || !isSlot(slot)) {
            return UNKNOWN;
        }
        if (!isShaftPlace(i)) {
            return failWith(PLACE);
        }
        Drive drive = slots[slot];
        if (shaft == CRANK_SHAFT && drive != null && !(drive instanceof Crank)) {
            return failWith(STORE);
        }
        shaftPlaces[shaft * SHAFT_PLACES + i] = drive;
        return done(1);
    }

    public int wind(int shaft, int dial) {
        Dial turned = dialAt(dial);
        if (!isShaft(shaft) || turned == null) {
            return UNKNOWN;
        }
        for (int i = 0; i < SHAFT_PLACES; i++) {
            Drive drive = shaftPlaces[shaft * SHAFT_PLACES + i];
            if (drive == null) {
                failWith(NULL);
                return i;
            }
            if (!drive.pullAt(turned)) {
                failWith(ENDLESS);
                return i;
            }
        }
        return done(SHAFT_PLACES);
    }

    public int laid(int shaft, int i) {
        if (!isShaft(shaft)) {
            return UNKNOWN;
        }
        if (!isShaftPlace(i)) {
            return failWith(PLACE);
        }
        Drive drive = shaftPlaces[shaft * SHAFT_PLACES + i];
        return done(drive == null ? NONE : drive.number);
    }

    public int pulls(int drive) {
        Drive asked = driveAt(drive);
        return asked == null ? UNKNOWN : asked.pullCount;
    }

    // ---- logs

    public int log(int log, boolean fine, int n) {
        Row row = rowAt(log, fine);
        if (row == null) {
            return UNKNOWN;
        }
        if (n < NONE || n > ROW_PLACES) {
            return OUTSIDE;
        }
        row.renew(n);
        return 1;
    }

    public int write(int log, boolean fine, int i, long bits) {
        Row row = rowAt(log, fine);
        if (row == null) {
            return UNKNOWN;
        }
        long told = Reals.told(fine, bits);
        if (!Reals.isFit(fine, told)) {
            return OUTSIDE;
        }
        int failure = row.failureAt(i);
        if (failure != 0) {
            return failWith(failure);
        }
        row.places[i] = told;
        return done(1);
    }

    public int read(int log, boolean fine, int i) {
        Row row = rowAt(log, fine);
        if (row == null) {
            return UNKNOWN;
        }
        int failure = row.failureAt(i);
        if (failure != 0) {
            return failWith(failure);
        }
        seenBits = row.places[i];
        return done(1);
    }

    public long seen() {
        return seenBits;
    }

    public int note(int log, boolean fine, int i, int dial) {
        Row row = rowAt(log, fine);
        Dial noted = dialAt(dial);
        if (row == null || noted == null) {
            return UNKNOWN;
        }
        int failure = row.failureAt(i);
        if (failure != 0) {
            return failWith(failure);
        }
        row.places[i] = Reals.ofReal(noted.fine, fine, noted.place);
        return done(1);
    }

    public int recall(int log, boolean fine, int i, int dial) {
        Row row = rowAt(log, fine);
        Dial moved = dialAt(dial);
        if (row == null || moved == null) {
            return UNKNOWN;
        }
        int failure = row.failureAt(i);
        if (failure != 0) {
            return failWith(failure);
        }
        // What stands there endless stays so when it is cast: one test tells both.
        long place = Reals.ofReal(fine, moved.fine, row.places[i]);
        if (!Reals.isFit(moved.fine, place)) {
            return failWith(ENDLESS);
        }
        moved.place = Reals.leftOver(moved.fine, place, moved.rim);
        return done(1);
    }

    public int sift(int log, boolean fine, long x) {
        Row row = rowAt(log, fine);
        if (row == null) {
            return UNKNOWN;
        }
        long sifted = Reals.told(fine, x);
        if (!Reals.isFit(fine, sifted)) {
            return OUTSIDE;
        }
        if (row.isMissing()) {
            return failWith(NULL);
        }
        int notZero = 0;
        for (int i = 0; i < row.size; i++) {
            if (!Reals.isZero(fine, row.places[i])) {
                sifted = Reals.leftOver(fine, sifted, row.places[i]);
                notZero++;
            }
        }
        seenBits = sifted;
        return done(notZero);
    }

    // ---- numbers

    public int cast(int from, int to, long bits) {
        if (!isKind(from) || !isKind(to)) {
            return OUTSIDE;
        }
        long number = from == INT || from == FLOAT ? (int) bits : bits;
        if (isReal(from) && !Reals.isNumber(from == DOUBLE, number)) {
            return OUTSIDE;
        }
        seenBits = isReal(from) ? castReal(from, to, number) : castWhole(to, number);
        return 1;
    }

    public int left(boolean fine, long x, long y) {
        long over = Reals.told(fine, x);
        long by = Reals.told(fine, y);
        if (!Reals.isFit(fine, over) || Reals.isZero(fine, by) || !Reals.isNumber(fine, by)) {
            return OUTSIDE;
        }
        seenBits = Reals.leftOver(fine, over, by);
        return 1;
    }

    // ---- what tells of failures, and how many there are

    public int failed() {
        return latestFailure;
    }

    public int about(int what) {
        if (what == 0) {
            return dialCount;
        }
        if (what == 1) {
            return driveCount;
        }
        int failure = what - 2;
        return failure >= 0 && failure < FAILURE_KINDS ? failureCounts[failure] : OUTSIDE;
    }

    private int failWith(int failure) {
        latestFailure = failure;
        int kind = NULL - failure;
        if (kind >= 0 && kind < FAILURE_KINDS) {
            failureCounts[kind]++;
        }
        return failure;
    }

    private int done(int answer) {
        latestFailure = 0;
        return answer;
    }

    // ---- what numbers name

    private Dial dialAt(int number) {
        return number >= 0 && number < dialCount ? dials[number] : null;
    }

    private Drive driveAt(int number) {
        return number >= 0 && number < driveCount ? drives[number] : null;
    }

    private Row rowAt(int log, boolean fine) {
        if (log < 0 || log >= LOGS) {
            return null;
        }
        return rows[2 * log + (fine ? 1 : 0)];
    }

    private static boolean isSlot(int slot) {
        return slot >= 0 && slot < SLOTS;
    }

    private static boolean isShaft(int shaft) {
        return shaft >= 0 && shaft < SHAFTS;
    }

    private static boolean isShaftPlace(int i) {
        return i >= 0 && i < SHAFT_PLACES;
    }

    private static boolean isKind(int kind) {
        return kind >= INT && kind <= DOUBLE;
    }

    private static boolean isReal(int kind) {
        return kind == FLOAT || kind == DOUBLE;
    }

    private static Drive newDrive(int sort, int number, long pull) {
        if (sort == SPRING) {
            return new Spring(number, pull);
        }
        return sort == CRANK ? new Crank(number, pull) : new Flywheel(number, pull);
    }

    private static long castReal(int from, int to, long number) {
        if (isReal(to)) {
            return Reals.ofReal(from == DOUBLE, to == DOUBLE, number);
        }
        long whole = Reals.cutToLong(from == DOUBLE, number);
        if (to == LONG) {
            return whole;
        }
        return Math.max(Integer.MIN_VALUE, Math.min(Integer.MAX_VALUE, whole));
    }

    private static long castWhole(int to, long number) {
        if (isReal(to)) {
            return Reals.ofLong(to == DOUBLE, number);
        }
        return to == INT ? (int) number : number;
    }

    /** A rim and where its dial stands, as bits of its kind. */
    private static final class Dial {
        final boolean fine;
        final long rim;
        long place = 0;
        long laps = 0;

        Dial(boolean fine, long rim) {
            this.fine = fine;
            this.rim = rim;
        }

        /** False, and nothing is done, if it would come to stand endlessly far. */
        boolean turnBy(long a) {
            long sum = Reals.sum(fine, place, a);
            if (!Reals.isFit(fine, sum)) {
                return false;
            }
            laps += Reals.cutToLong(fine, Reals.quotient(fine, sum, rim));
            place = Reals.leftOver(fine, sum, rim);
            return true;
        }
    }

    private abstract static class Drive {
        final int number;
        /** Bits of a double. */
        final long pull;
        int pullCount = 0;

        Drive(int number, long pull) {
            this.number = number;
            this.pull = pull;
        }

        /** What it pulls by, a double that may be endless, where a dial stands at that double. */
        abstract long forceAt(long place);

        /** False if that is endless or turns the dial endlessly far; it has pulled all the same. */
        boolean pullAt(Dial dial) {
            long force = forceAt(Reals.ofReal(dial.fine, true, dial.place));
            pullCount++;
            long a = Reals.ofReal(true, dial.fine, force);
            return Reals.isFit(dial.fine, a) && dial.turnBy(a);
        }
    }

    private static final class Spring extends Drive {
        Spring(int number, long pull) {
            super(number, pull);
        }

        long forceAt(long place) {
            return Reals.sum(true, pull, Reals.negated(place));
        }
    }

    private static class Crank extends Drive {
        int gear = 1;

        Crank(int number, long pull) {
            super(number, pull);
        }

        long forceAt(long place) {
            return Reals.timesInt(pull, gear);
        }
    }

    private static final class Flywheel extends Crank {
        Flywheel(int number, long pull) {
            super(number, pull);
        }

        /** Two parts endless to opposite sides would be no number together: one endless part is enough. */
        long forceAt(long place) {
            long cranked = Reals.timesInt(pull, gear);
            if (!Reals.isFit(true, cranked)) {
                return cranked;
            }
            long swung = Reals.timesInt(pull, pullCount);
            return Reals.isFit(true, swung) ? Reals.sum(true, cranked, swung) : swung;
        }
    }

    /** A log's row of floats or of doubles, as bits; the same places serve every new row. */
    private static final class Row {
        final long[] places = new long[ROW_PLACES];
        int size = NONE;

        void renew(int n) {
            for (int i = 0; i < places.length; i++) {
                places[i] = 0;
            }
            size = n;
        }

        boolean isMissing() {
            return size == NONE;
        }

        /** 0 if there is such a place. */
        int failureAt(int i) {
            if (isMissing()) {
                return NULL;
            }
            return i >= 0 && i < size ? 0 : PLACE;
        }
    }

    /**
     * Floats and (fine) doubles by their bits, a float's as an int's in a long.
     *
     * <p>The language has no way between a double and its bits, so all is reckoned on the bits, with
     * whole numbers. One that is fit is, but for its sign, mantissa * 2^exponent.
     */
    private static final class Reals {
        /** As many bits are free above a double's mantissa, for a long that stays positive. */
        private static final int FREE_BITS = 10;

        private Reals() {
        }

        static long told(boolean fine, long bits) {
            return fine ? bits : (int) bits;
        }

        static boolean isNumber(boolean fine, long x) {
            return sizeOf(fine, x) <= endless(fine);
        }

        static boolean isFit(boolean fine, long x) {
            return sizeOf(fine, x) < endless(fine);
        }

        static boolean isZero(boolean fine, long x) {
            return sizeOf(fine, x) == 0;
        }

        /** Of a double. */
        static long negated(long x) {
            return x ^ Long.MIN_VALUE;
        }

        /** Both are fit. */
        static long sum(boolean fine, long x, long y) {
            boolean ordered = sizeOf(fine, x) >= sizeOf(fine, y);
            long big = ordered ? x : y;
            long small = ordered ? y : x;
            // Three bits more than are kept: one for a sum that loses its first, one for the half,
            // one for all that is shifted out.
            long bigMantissa = mantissa(fine, big) << 3;
            int apart = exponent(fine, big) - exponent(fine, small);
            long smallMantissa = shiftedOut(mantissa(fine, small) << 3, apart);
            boolean alike = (big < 0) == (small < 0);
            long total = alike ? bigMantissa + smallMantissa : bigMantissa - smallMantissa;
            boolean negative = big < 0 && (total != 0 || small < 0);
            return nearest(fine, negative, total, exponent(fine, big) - 3);
        }

        /** Both are fit, y is not 0. */
        static long quotient(boolean fine, long x, long y) {
            boolean negative = (x < 0) != (y < 0);
            long over = mantissa(fine, x);
            long by = mantissa(fine, y);
            if (over == 0 || by == 0) {
                return signed(fine, negative, 0);
            }
            // Mantissas of one length: then enough bits of the quotient come for a double.
            int overShift = 53 - lengthOf(over);
            int byShift = 53 - lengthOf(by);
            over <<= overShift;
            by <<= byShift;
            long result = over / by;
            long rest = over % by;
            for (int i = 0; i < 6; i++) {
                rest <<= FREE_BITS;
                result = (result << FREE_BITS) | (rest / by);
                rest %= by;
            }
            int exponent = exponent(fine, x) - overShift - exponent(fine, y) + byShift;
            return nearest(fine, negative, withMore(result, rest), exponent - 6 * FREE_BITS);
        }

        /**
         * Of a double that is fit and a gear or a count of pulls. 512 calls of four pulls are all that an
         * object is used for, and a mantissa times 2048 fits into 64 bits, read without a sign.
         */
        static long timesInt(long x, int n) {
            boolean negative = (x < 0) != (n < 0);
            return nearest(true, negative, mantissa(true, x) * Math.abs((long) n), exponent(true, x));
        }

        /** What is LEFT of x, which is fit, by y, a number that is not 0. */
        static long leftOver(boolean fine, long x, long y) {
            long by = mantissa(fine, y);
            if (by == 0 || sizeOf(fine, x) < sizeOf(fine, y)) {
                return x;
            }
            long rest = mantissa(fine, x) % by;
            int step = Math.max(FREE_BITS, Long.numberOfLeadingZeros(by) - 1);
            for (int apart = exponent(fine, x) - exponent(fine, y); apart > 0; apart -= step) {
                rest = (rest << Math.min(step, apart)) % by;
            }
            return nearest(fine, x < 0, rest, exponent(fine, y));
        }

        /** The least LONG is its own abs: read without a sign, that is its size. */
        static long ofLong(boolean fine, long whole) {
            return nearest(fine, whole < 0, Math.abs(whole), 0);
        }

        /** A number of the one kind as one of the other, or of the same. */
        static long ofReal(boolean fromFine, boolean fine, long x) {
            if (!isFit(fromFine, x)) {
                return signed(fine, x < 0, endless(fine));
            }
            return nearest(fine, x < 0, mantissa(fromFine, x), exponent(fromFine, x));
        }

        /** Of a number: cut toward 0, held at the ends of the LONG. */
        static long cutToLong(boolean fine, long x) {
            long mantissa = mantissa(fine, x);
            int exponent = exponent(fine, x);
            if (lengthOf(mantissa) + exponent > 63) {
                return x < 0 ? Long.MIN_VALUE : Long.MAX_VALUE;
            }
            if (exponent <= -64) {
                return 0;
            }
            long whole = exponent < 0 ? mantissa >>> -exponent : mantissa << exponent;
            return x < 0 ? -whole : whole;
        }

        /** The one nearest to whole (read without a sign) * 2^exponent, of two as near the even one. */
        private static long nearest(boolean fine, boolean negative, long whole, int exponent) {
            if (whole == 0) {
                return signed(fine, negative, 0);
            }
            int least = leastExponent(fine);
            int lowest = Math.max(exponent + lengthOf(whole) - 1 - width(fine), least);
            long endless = endless(fine);
            long field = lowest - least;
            if (field + 1 >= endless >>> width(fine)) {
                return signed(fine, negative, endless);
            }
            // A mantissa's first bit adds 1 to the field of the exponent, and so does a carry out of
            // it, up to the field of what is endless.
            long size = (field << width(fine)) + rounded(whole, lowest - exponent);
            return signed(fine, negative, size);
        }

        /** The whole number nearest to whole (read without a sign) / 2^cut, of two as near the even one. */
        private static long rounded(long whole, int cut) {
            if (cut <= 0) {
                return whole << -cut;
            }
            if (cut > 63) {
                return 0;
            }
            long kept = whole >>> cut;
            long rest = whole & ((1L << cut) - 1);
            long half = 1L << (cut - 1);
            boolean up = rest > half || (rest == half && (kept & 1) != 0);
            return up ? kept + 1 : kept;
        }

        private static long shiftedOut(long whole, int cut) {
            if (cut > 63) {
                return withMore(0, whole);
            }
            return withMore(whole >>> cut, whole & ((1L << cut) - 1));
        }

        /** Rounding need only know that there is more below, not how much. */
        private static long withMore(long whole, long rest) {
            return rest == 0 ? whole : whole | 1;
        }

        private static long mantissa(boolean fine, long x) {
            long first = 1L << width(fine);
            long fraction = x & (first - 1);
            return sizeOf(fine, x) < first ? fraction : fraction | first;
        }

        private static int exponent(boolean fine, long x) {
            int field = (int) (sizeOf(fine, x) >>> width(fine));
            return leastExponent(fine) + Math.max(0, field - 1);
        }

        private static long sizeOf(boolean fine, long x) {
            return x & (fine ? Long.MAX_VALUE : Integer.MAX_VALUE);
        }

        /** A float's sign fills the upper half too, as it does when an int becomes a long. */
        private static long signed(boolean fine, boolean negative, long size) {
            long sign = fine ? Long.MIN_VALUE : Integer.MIN_VALUE;
            return negative ? size | sign : size;
        }

        private static long endless(boolean fine) {
            return fine ? 0x7ffL << 52 : 0xffL << 23;
        }

        private static int width(boolean fine) {
            return fine ? 52 : 23;
        }

        private static int leastExponent(boolean fine) {
            return fine ? -1074 : -149;
        }

        private static int lengthOf(long whole) {
            return 64 - Long.numberOfLeadingZeros(whole);
        }
    }
}

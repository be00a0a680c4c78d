/**
 * The document again, in Java's own floats and doubles (its %, its casts), to hold the program against.
 * Answers are those of the document; how they are reached has nothing in common with the program.
 */
final class Model {
    int dialCount = 0;
    final boolean[] fineDial = new boolean[12];
    final float[] floatRim = new float[12], floatPlace = new float[12];
    final double[] doubleRim = new double[12], doublePlace = new double[12];
    final long[] lapsOf = new long[12];

    int driveCount = 0;
    final int[] sortOf = new int[20], gearOf = new int[20], pullsOf = new int[20];
    final double[] pullOf = new double[20];
    final int[] slotDrive = {-1, -1, -1, -1, -1, -1};
    final int[][] shaftDrive = {{-1, -1, -1, -1}, {-1, -1, -1, -1}};

    final float[][] floatRow = new float[8][];
    final double[][] doubleRow = new double[8][];

    long seen = 0;
    int failed = 0;
    final int[] failures = new int[5];

    private static float f(long bits) {
        return Float.intBitsToFloat((int) bits);
    }

    private static double d(long bits) {
        return Double.longBitsToDouble(bits);
    }

    private static boolean fit(boolean fine, long bits) {
        return fine ? Double.isFinite(d(bits)) : Float.isFinite(f(bits));
    }

    private boolean noDial(int dial) {
        return dial < 0 || dial >= dialCount;
    }

    private boolean noDrive(int drive) {
        return drive < 0 || drive >= driveCount;
    }

    private static boolean not(int n, int count) {
        return n < 0 || n >= count;
    }

    private int fail(int failure) {
        failed = failure;
        failures[-11 - failure]++;
        return failure;
    }

    private int done(int answer) {
        failed = 0;
        return answer;
    }

    int dial(boolean fine, long rim) {
        if (!fit(fine, rim) || (fine ? d(rim) == 0 : f(rim) == 0)) return -102;
        if (dialCount == 12) return -103;
        fineDial[dialCount] = fine;
        if (fine) doubleRim[dialCount] = d(rim);
        else floatRim[dialCount] = f(rim);
        return dialCount++;
    }

    private boolean turned(int dial, float f, double d) {
        if (fineDial[dial]) {
            double s = doublePlace[dial] + d;
            if (Double.isInfinite(s)) return false;
            lapsOf[dial] += (long) (s / doubleRim[dial]);
            doublePlace[dial] = s % doubleRim[dial];
        } else {
            float s = floatPlace[dial] + f;
            if (Float.isInfinite(s)) return false;
            lapsOf[dial] += (long) (s / floatRim[dial]);
            floatPlace[dial] = s % floatRim[dial];
        }
        return true;
    }

    int turn(int dial, long a) {
        if (noDial(dial)) return -101;
        if (!fit(fineDial[dial], a)) return -102;
        return turned(dial, f(a), d(a)) ? done(1) : fail(-15);
    }

    int spin(int dial, long a, int n) {
        if (noDial(dial)) return -101;
        if (!fit(fineDial[dial], a) || n < 0 || n > 40) return -102;
        done(0);
        int times = 0;
        while (times < n && failed == 0) {
            if (turned(dial, f(a), d(a))) times++;
            else fail(-15);
        }
        return times;
    }

    long place(int dial, int what) {
        if (noDial(dial) || what < 0 || what > 1) return 0;
        if (fineDial[dial]) return Due.bits(what == 0 ? doublePlace[dial] : doubleRim[dial]);
        return Due.bits(what == 0 ? floatPlace[dial] : floatRim[dial]);
    }

    long laps(int dial) {
        return noDial(dial) ? 0 : lapsOf[dial];
    }

    int fine(int dial) {
        return noDial(dial) ? -101 : fineDial[dial] ? 1 : 0;
    }

    int drive(int sort, long pull) {
        if (not(sort, 3) || !fit(true, pull)) return -102;
        if (driveCount == 20) return -103;
        sortOf[driveCount] = sort;
        gearOf[driveCount] = 1;
        pullOf[driveCount] = d(pull);
        return driveCount++;
    }

    int fit(int slot, int drive) {
        if (not(slot, 6) || (drive != -1 && noDrive(drive))) return -101;
        slotDrive[slot] = drive;
        return 1;
    }

    private boolean pulled(int drive, int dial) {
        double place = fineDial[dial] ? doublePlace[dial] : floatPlace[dial];
        double by = sortOf[drive] == 0 ? pullOf[drive] - place : pullOf[drive] * gearOf[drive];
        if (sortOf[drive] == 2) by += pullOf[drive] * pullsOf[drive];
        pullsOf[drive]++;
        if (!(fineDial[dial] ? Double.isFinite(by) : Float.isFinite((float) by))) return false;
        return turned(dial, (float) by, by);
    }

    int pull(int slot, int dial) {
        if (not(slot, 6) || noDial(dial)) return -101;
        if (slotDrive[slot] == -1) return fail(-11);
        return pulled(slotDrive[slot], dial) ? done(1) : fail(-15);
    }

    int gear(int slot, int g) {
        if (not(slot, 6)) return -101;
        if (g < -1000 || g > 1000) return -102;
        int drive = slotDrive[slot];
        if (drive == -1) return fail(-11);
        if (sortOf[drive] == 0) return fail(-13);
        int was = gearOf[drive];
        gearOf[drive] = g;
        return done(was);
    }

    int lay(int shaft, int i, int slot) {
        if (not(shaft, 2) || not(slot, 6)) return -101;
        if (not(i, 4)) return fail(-12);
        int drive = slotDrive[slot];
        if (shaft == 1 && drive != -1 && sortOf[drive] == 0) return fail(-14);
        shaftDrive[shaft][i] = drive;
        return done(1);
    }

    int wind(int shaft, int dial) {
        if (not(shaft, 2) || noDial(dial)) return -101;
        done(0);
        int count = 0;
        for (int drive : shaftDrive[shaft]) {
            if (failed != 0) continue;
            if (drive == -1) fail(-11);
            else if (pulled(drive, dial)) count++;
            else fail(-15);
        }
        return count;
    }

    int laid(int shaft, int i) {
        if (not(shaft, 2)) return -101;
        return not(i, 4) ? fail(-12) : done(shaftDrive[shaft][i]);
    }

    int pulls(int drive) {
        return noDrive(drive) ? -101 : pullsOf[drive];
    }

    int log(int log, boolean fine, int n) {
        if (not(log, 8)) return -101;
        if (n < -1 || n > 16) return -102;
        if (fine) doubleRow[log] = n == -1 ? null : new double[n];
        else floatRow[log] = n == -1 ? null : new float[n];
        return 1;
    }

    /** -1 of a missing one. */
    private int length(int log, boolean fine) {
        if (fine) return doubleRow[log] == null ? -1 : doubleRow[log].length;
        return floatRow[log] == null ? -1 : floatRow[log].length;
    }

    int write(int log, boolean fine, int i, long bits) {
        if (not(log, 8)) return -101;
        if (!fit(fine, bits)) return -102;
        if (length(log, fine) < 0) return fail(-11);
        if (not(i, length(log, fine))) return fail(-12);
        if (fine) doubleRow[log][i] = d(bits);
        else floatRow[log][i] = f(bits);
        return done(1);
    }

    int read(int log, boolean fine, int i) {
        if (not(log, 8)) return -101;
        if (length(log, fine) < 0) return fail(-11);
        if (not(i, length(log, fine))) return fail(-12);
        seen = fine ? Due.bits(doubleRow[log][i]) : Due.bits(floatRow[log][i]);
        return done(1);
    }

    int note(int log, boolean fine, int i, int dial) {
        if (not(log, 8) || noDial(dial)) return -101;
        if (length(log, fine) < 0) return fail(-11);
        if (not(i, length(log, fine))) return fail(-12);
        double place = fineDial[dial] ? doublePlace[dial] : floatPlace[dial];
        if (fine) doubleRow[log][i] = place;
        else floatRow[log][i] = (float) place;
        return done(1);
    }

    int recall(int log, boolean fine, int i, int dial) {
        if (not(log, 8) || noDial(dial)) return -101;
        if (length(log, fine) < 0) return fail(-11);
        if (not(i, length(log, fine))) return fail(-12);
        double there = fine ? doubleRow[log][i] : floatRow[log][i];
        if (fineDial[dial]) {
            if (Double.isInfinite(there)) return fail(-15);
            doublePlace[dial] = there % doubleRim[dial];
        } else {
            if (Float.isInfinite((float) there)) return fail(-15);
            floatPlace[dial] = (float) there % floatRim[dial];
        }
        return done(1);
    }

    int sift(int log, boolean fine, long x) {
        if (not(log, 8)) return -101;
        if (!fit(fine, x)) return -102;
        if (length(log, fine) < 0) return fail(-11);
        int count = 0;
        double dx = d(x);
        float fx = f(x);
        for (int i = 0; i < length(log, fine); i++) {
            if (fine ? doubleRow[log][i] == 0 : floatRow[log][i] == 0) continue;
            count++;
            if (fine) dx %= doubleRow[log][i];
            else fx %= floatRow[log][i];
        }
        seen = fine ? Due.bits(dx) : Due.bits(fx);
        return done(count);
    }

    int cast(int from, int to, long bits) {
        if (not(from, 4) || not(to, 4)) return -102;
        if (from == 2 && Float.isNaN(f(bits)) || from == 3 && Double.isNaN(d(bits))) return -102;
        switch (4 * from + to) {
            case 0: case 1: case 4: seen = (int) bits; break;
            case 2: seen = Due.bits((float) (int) bits); break;
            case 3: seen = Due.bits((double) (int) bits); break;
            case 5: seen = bits; break;
            case 6: seen = Due.bits((float) bits); break;
            case 7: seen = Due.bits((double) bits); break;
            case 8: seen = (int) f(bits); break;
            case 9: seen = (long) f(bits); break;
            case 10: seen = Due.bits(f(bits)); break;
            case 11: seen = Due.bits((double) f(bits)); break;
            case 12: seen = (int) d(bits); break;
            case 13: seen = (long) d(bits); break;
            case 14: seen = Due.bits((float) d(bits)); break;
            default: seen = Due.bits(d(bits)); break;
        }
        return 1;
    }

    int left(boolean fine, long x, long y) {
        if (!fit(fine, x)) return -102;
        if (fine ? d(y) == 0 || Double.isNaN(d(y)) : f(y) == 0 || Float.isNaN(f(y))) return -102;
        seen = fine ? Due.bits(d(x) % d(y)) : Due.bits(f(x) % f(y));
        return 1;
    }

    int about(int what) {
        if (not(what, 7)) return -102;
        return what == 0 ? dialCount : what == 1 ? driveCount : failures[what - 2];
    }
}

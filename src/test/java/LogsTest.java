/** Promises 16 to 22: log, write, read, seen, note, recall, sift. */
public final class LogsTest {
    private static final Due DUE = new Due("LogsTest");
    private static final boolean[] KINDS = {false, true};
    private static final double ENDLESS = Double.POSITIVE_INFINITY;

    public static void main(String[] args) {
        for (boolean fine : KINDS) {
            log(fine);
            write(fine);
            read(fine);
            note(fine);
            recall(fine);
            sift(fine);
            siftFailing(fine);
        }
        rowsAreApart();
        seen();
        noteCasts();
        recallCasts();
        endlessInARow();
        DUE.end();
    }

    /** A coarse dial 0 and a fine dial 1 with wide rims. */
    private static OrreryDials withDials() {
        OrreryDials x = new OrreryDials();
        x.dial(false, Due.bits(Float.MAX_VALUE));
        x.dial(true, Due.bits(Double.MAX_VALUE));
        return x;
    }

    private static void reads(OrreryDials x, int log, boolean fine, int i, double want) {
        DUE.due("read(" + log + ", " + fine + ", " + i + ")", x.read(log, fine, i), 1);
        DUE.due("seen() of (" + log + ", " + fine + ", " + i + ")", x.seen(), Due.bits(fine, want));
    }

    private static void log(boolean fine) {
        OrreryDials x = new OrreryDials();
        for (int n = 0; n <= 16; n++) {
            DUE.due("log of " + n, x.log(3, fine, n), 1);
            for (int i = 0; i < n; i++) {
                DUE.due("write", x.write(3, fine, i, Due.bits(fine, 7)), 1);
            }
            DUE.due("behind the last", x.read(3, fine, n), OrreryDials.PLACE);
        }
        DUE.due("a shorter one", x.log(3, fine, 2), 1);
        DUE.due("a longer one", x.log(3, fine, 16), 1);
        for (int i = 0; i < 16; i++) {
            reads(x, 3, fine, i, 0.0);
        }
        DUE.due("log of 17", x.log(3, fine, 17), OrreryDials.OUTSIDE);
        DUE.due("log of -2", x.log(3, fine, -2), OrreryDials.OUTSIDE);
        DUE.due("log of max", x.log(3, fine, Integer.MAX_VALUE), OrreryDials.OUTSIDE);
        DUE.due("log 8", x.log(8, fine, 17), OrreryDials.UNKNOWN);
        DUE.due("log -1", x.log(-1, fine, 0), OrreryDials.UNKNOWN);
        DUE.due("still there", x.read(3, fine, 15), 1);
        DUE.due("log of NONE", x.log(3, fine, OrreryDials.NONE), 1);
        DUE.due("log does not fail", x.failed(), 0);
        DUE.due("missing", x.read(3, fine, 0), OrreryDials.NULL);
        DUE.due("log of 1", x.log(3, fine, 1), 1);
        reads(x, 3, fine, 0, 0.0);
    }

    private static void write(boolean fine) {
        OrreryDials x = new OrreryDials();
        DUE.due("to a missing row", x.write(7, fine, 0, 0), OrreryDials.NULL);
        DUE.due("to no place of a missing row", x.write(7, fine, 99, 0), OrreryDials.NULL);
        x.log(7, fine, 3);
        DUE.due("write 1.5", x.write(7, fine, 0, Due.bits(fine, 1.5)), 1);
        DUE.due("write -0.0", x.write(7, fine, 2, Due.bits(fine, -0.0)), 1);
        reads(x, 7, fine, 0, 1.5);
        reads(x, 7, fine, 1, 0.0);
        reads(x, 7, fine, 2, -0.0);
        DUE.due("place 3", x.write(7, fine, 3, 0), OrreryDials.PLACE);
        DUE.due("place -1", x.write(7, fine, -1, 0), OrreryDials.PLACE);
        DUE.due("about(2)", x.about(2), 2);
        DUE.due("about(3)", x.about(3), 2);
        DUE.due("endless", x.write(7, fine, 3, Due.bits(fine, ENDLESS)), OrreryDials.OUTSIDE);
        DUE.due("endless below 0", x.write(7, fine, 0, Due.bits(fine, -ENDLESS)), OrreryDials.OUTSIDE);
        DUE.due("no number", x.write(6, fine, 0, Due.bits(fine, Double.NaN)), OrreryDials.OUTSIDE);
        DUE.due("log 8", x.write(8, fine, 0, -1), OrreryDials.UNKNOWN);
        DUE.due("log -1", x.write(-1, fine, 0, 0), OrreryDials.UNKNOWN);
        reads(x, 7, fine, 0, 1.5);
        DUE.due("failed()", x.failed(), 0);
    }

    private static void read(boolean fine) {
        OrreryDials x = new OrreryDials();
        x.log(0, fine, 1);
        x.write(0, fine, 0, Due.bits(fine, -2.75));
        DUE.due("seen() before", x.seen(), 0);
        reads(x, 0, fine, 0, -2.75);
        DUE.due("place 1", x.read(0, fine, 1), OrreryDials.PLACE);
        DUE.due("place -1", x.read(0, fine, -1), OrreryDials.PLACE);
        DUE.due("log 1", x.read(1, fine, 0), OrreryDials.NULL);
        DUE.due("log 8", x.read(8, fine, 0), OrreryDials.UNKNOWN);
        DUE.due("log -1", x.read(-1, fine, 0), OrreryDials.UNKNOWN);
        DUE.due("seen() as it was", x.seen(), Due.bits(fine, -2.75));
        DUE.due("failed()", x.failed(), OrreryDials.NULL);
    }

    private static void rowsAreApart() {
        OrreryDials x = new OrreryDials();
        for (int log = 0; log < 8; log++) {
            x.log(log, false, 16);
            x.log(log, true, 16);
            for (int i = 0; i < 16; i++) {
                x.write(log, false, i, Due.bits((float) (100 * log + i)));
                x.write(log, true, i, Due.bits(-100.0 * log - i));
            }
        }
        for (int log = 0; log < 8; log++) {
            reads(x, log, false, 2 * log, 102 * log);
            reads(x, log, true, log, -101.0 * log);
        }
        x.log(4, false, OrreryDials.NONE);
        reads(x, 4, true, 5, -405);
        DUE.due("missing", x.read(4, false, 5), OrreryDials.NULL);
        reads(x, 5, false, 5, 505);
    }

    /** Promise 19: what comes into SEEN, told as an int of a float. */
    private static void seen() {
        OrreryDials x = new OrreryDials();
        DUE.due("seen() at first", x.seen(), 0);
        x.log(0, false, 1);
        x.write(0, false, 0, 0x5555555580000001L);
        x.read(0, false, 0);
        DUE.due("seen() of a float", x.seen(), 0xffffffff80000001L);
        DUE.due("seen() again", x.seen(), 0xffffffff80000001L);
        x.sift(0, false, 0x55555555bf800000L);
        DUE.due("seen() of a sifted float", x.seen(), 0xffffffff80000000L);
        x.log(0, false, 0);
        x.sift(0, false, 0x55555555bf800000L);
        DUE.due("seen() of a float, sifted by nothing", x.seen(), 0xffffffffbf800000L);
        x.cast(3, 1, Due.bits(1e10));
        DUE.due("seen() of a cast", x.seen(), 10000000000L);
        x.left(true, Due.bits(7.5), Due.bits(2.0));
        DUE.due("seen() of what is left", x.seen(), Due.bits(1.5));
        x.cast(9, 1, 0);
        x.left(true, 0, 0);
        x.sift(1, true, 0);
        DUE.due("seen() after refusals and failures", x.seen(), Due.bits(1.5));
    }

    private static void note(boolean fine) {
        OrreryDials x = withDials();
        x.turn(0, Due.bits(-2.5f));
        x.turn(1, Due.bits(4.5));
        DUE.due("to a missing row", x.note(2, fine, 0, 0), OrreryDials.NULL);
        x.log(2, fine, 2);
        DUE.due("note", x.note(2, fine, 0, 0), 1);
        DUE.due("note", x.note(2, fine, 1, 1), 1);
        DUE.due("failed()", x.failed(), 0);
        reads(x, 2, fine, 0, -2.5);
        reads(x, 2, fine, 1, 4.5);
        DUE.due("place 2", x.note(2, fine, 2, 0), OrreryDials.PLACE);
        DUE.due("place -1", x.note(2, fine, -1, 0), OrreryDials.PLACE);
        DUE.due("dial 2", x.note(2, fine, 2, 2), OrreryDials.UNKNOWN);
        DUE.due("dial -1", x.note(3, fine, 0, -1), OrreryDials.UNKNOWN);
        DUE.due("log 8", x.note(8, fine, 0, 0), OrreryDials.UNKNOWN);
        DUE.due("log -1", x.note(-1, fine, 0, 0), OrreryDials.UNKNOWN);
        DUE.due("about(2)", x.about(2), 1);
        DUE.due("about(3)", x.about(3), 2);
    }

    private static void noteCasts() {
        OrreryDials x = withDials();
        x.log(0, false, 4);
        x.log(0, true, 4);
        x.turn(0, Due.bits(0.1f));
        x.turn(1, Due.bits(0.1));
        x.note(0, true, 0, 0);
        x.note(0, false, 0, 1);
        x.note(0, true, 1, 1);
        reads(x, 0, true, 0, 0.1f);
        reads(x, 0, false, 0, 0.1);
        reads(x, 0, true, 1, 0.1);
        DUE.due("the dial's place stays", x.place(1, 0), Due.bits(0.1));
        x.turn(1, Due.bits(1e300));
        DUE.due("a note that is endless as a float", x.note(0, false, 2, 1), 1);
        reads(x, 0, false, 2, ENDLESS);
        x.turn(1, Due.bits(-1.5e300));
        DUE.due("and below 0", x.note(0, false, 3, 1), 1);
        reads(x, 0, false, 3, -ENDLESS);
        DUE.due("about(6)", x.about(6), 0);
    }

    private static void recall(boolean fine) {
        OrreryDials x = new OrreryDials();
        x.dial(fine, Due.bits(fine, 10));
        x.turn(0, Due.bits(fine, 25));
        DUE.due("of a missing row", x.recall(0, fine, 0, 0), OrreryDials.NULL);
        x.log(0, fine, 3);
        x.write(0, fine, 0, Due.bits(fine, 37.5));
        x.write(0, fine, 1, Due.bits(fine, -20));
        DUE.due("recall 37.5", x.recall(0, fine, 0, 0), 1);
        DUE.due("place", x.place(0, 0), Due.bits(fine, 7.5));
        DUE.due("laps stay", x.laps(0), 2);
        DUE.due("recall -20", x.recall(0, fine, 1, 0), 1);
        DUE.due("place", x.place(0, 0), Due.bits(fine, -0.0));
        DUE.due("recall 0.0", x.recall(0, fine, 2, 0), 1);
        DUE.due("place", x.place(0, 0), Due.bits(fine, 0.0));
        DUE.due("failed()", x.failed(), 0);
        DUE.due("place 3", x.recall(0, fine, 3, 0), OrreryDials.PLACE);
        DUE.due("place -1", x.recall(0, fine, -1, 0), OrreryDials.PLACE);
        DUE.due("dial 1", x.recall(0, fine, 3, 1), OrreryDials.UNKNOWN);
        DUE.due("dial -1", x.recall(1, fine, 0, -1), OrreryDials.UNKNOWN);
        DUE.due("log 8", x.recall(8, fine, 0, 0), OrreryDials.UNKNOWN);
        DUE.due("log -1", x.recall(-1, fine, 0, 0), OrreryDials.UNKNOWN);
        DUE.due("about(2)", x.about(2), 1);
        DUE.due("about(3)", x.about(3), 2);
        DUE.due("about(6)", x.about(6), 0);
    }

    private static void recallCasts() {
        OrreryDials x = new OrreryDials();
        x.dial(false, Due.bits(0.25f));
        x.dial(true, Due.bits(0.25));
        x.log(0, false, 2);
        x.log(0, true, 3);
        x.write(0, true, 0, Due.bits(16777216.3));
        x.write(0, true, 1, Due.bits(0.6));
        x.write(0, false, 0, Due.bits(0.6f));
        x.recall(0, true, 0, 0);
        DUE.due("cast comes ahead of what is left", x.place(0, 0), Due.bits((float) 16777216.3 % 0.25f));
        x.recall(0, true, 1, 0);
        DUE.due("a double to a float", x.place(0, 0), Due.bits((float) 0.6 % 0.25f));
        x.recall(0, false, 0, 1);
        DUE.due("a float to a double", x.place(1, 0), Due.bits(0.6f % 0.25));
        x.write(0, true, 2, Due.bits(1e39));
        DUE.due("endless as a float", x.recall(0, true, 2, 0), OrreryDials.ENDLESS);
        DUE.due("failed()", x.failed(), OrreryDials.ENDLESS);
        DUE.due("about(6)", x.about(6), 1);
        DUE.due("the place stays", x.place(0, 0), Due.bits((float) 0.6 % 0.25f));
        DUE.due("not as a double", x.recall(0, true, 2, 1), 1);
        DUE.due("place", x.place(1, 0), 0);
    }

    private static void endlessInARow() {
        OrreryDials x = withDials();
        x.log(0, false, 3);
        x.turn(1, Due.bits(-1e300));
        x.note(0, false, 1, 1);
        DUE.due("recall to a float", x.recall(0, false, 1, 0), OrreryDials.ENDLESS);
        DUE.due("recall to a double", x.recall(0, false, 1, 1), OrreryDials.ENDLESS);
        DUE.due("place(0, 0)", x.place(0, 0), 0);
        DUE.due("place(1, 0)", x.place(1, 0), Due.bits(-1e300));
        DUE.due("about(6)", x.about(6), 2);
        x.write(0, false, 2, Due.bits(4f));
        DUE.due("an endless place counts", x.sift(0, false, Due.bits(-7f)), 2);
        DUE.due("seen()", x.seen(), Due.bits(-3f));
    }

    private static void sift(boolean fine) {
        OrreryDials x = new OrreryDials();
        x.log(1, fine, 6);
        DUE.due("all 0", x.sift(1, fine, Due.bits(fine, 1000)), 0);
        DUE.due("seen()", x.seen(), Due.bits(fine, 1000));
        x.write(1, fine, 0, Due.bits(fine, 300));
        x.write(1, fine, 1, Due.bits(fine, -0.0));
        x.write(1, fine, 2, Due.bits(fine, -70));
        x.write(1, fine, 4, Due.bits(fine, 7));
        x.write(1, fine, 5, Due.bits(fine, 1.5));
        DUE.due("sift 1000", x.sift(1, fine, Due.bits(fine, 1000)), 4);
        DUE.due("seen()", x.seen(), Due.bits(fine, 1000 % 300 % 70 % 7 % 1.5));
        DUE.due("sift -1000", x.sift(1, fine, Due.bits(fine, -1000)), 4);
        DUE.due("seen()", x.seen(), Due.bits(fine, -1000 % 300 % 70 % 7 % 1.5));
        DUE.due("sift -300", x.sift(1, fine, Due.bits(fine, -300)), 4);
        DUE.due("seen()", x.seen(), Due.bits(fine, -0.0));
        reads(x, 1, fine, 0, 300);
        x.log(1, fine, 2);
        x.write(1, fine, 0, Due.bits(fine, 7));
        x.write(1, fine, 1, Due.bits(fine, 20));
        DUE.due("from the first on", x.sift(1, fine, Due.bits(fine, 40)), 2);
        DUE.due("seen()", x.seen(), Due.bits(fine, 5));
        x.log(1, fine, 0);
        DUE.due("no places", x.sift(1, fine, Due.bits(fine, 3)), 0);
        DUE.due("seen()", x.seen(), Due.bits(fine, 3));
    }

    private static void siftFailing(boolean fine) {
        OrreryDials x = new OrreryDials();
        long three = Due.bits(fine, 3);
        DUE.due("missing", x.sift(0, fine, three), OrreryDials.NULL);
        DUE.due("failed()", x.failed(), OrreryDials.NULL);
        DUE.due("about(2)", x.about(2), 1);
        DUE.due("seen()", x.seen(), 0);
        DUE.due("endless", x.sift(0, fine, Due.bits(fine, ENDLESS)), OrreryDials.OUTSIDE);
        DUE.due("endless below 0", x.sift(0, fine, Due.bits(fine, -ENDLESS)), OrreryDials.OUTSIDE);
        DUE.due("no number", x.sift(0, fine, Due.bits(fine, Double.NaN)), OrreryDials.OUTSIDE);
        DUE.due("log 8", x.sift(8, fine, -1), OrreryDials.UNKNOWN);
        DUE.due("log -1", x.sift(-1, fine, three), OrreryDials.UNKNOWN);
        DUE.due("about(2)", x.about(2), 1);
        x.log(0, fine, 1);
        DUE.due("sift", x.sift(0, fine, three), 0);
        DUE.due("failed()", x.failed(), 0);
    }
}

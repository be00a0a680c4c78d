import java.io.IOException;

/** Promises 23 to 26, sentence by sentence. */
public final class NumberSentencesTest extends Sentences {
    private static final int[] NO_KINDS = {-1, 4, MIN, MAX};
    private static final int[] FAILURES = {NULL, PLACE, CAST, STORE, ENDLESS};

    public static void main(String[] args) throws IOException {
        run(NumberSentencesTest.class, args, "Promise 23", "Promise 24", "Promise 25", "Promise 26");
    }

    /** 1 in each kind. */
    private static long one(int kind) {
        return kind == FLOAT ? bits(1f) : kind == DOUBLE ? bits(1.0) : 1;
    }

    // ---- Promise 23: cast

    @Says(in = "Promise 23", words = "A NUMBER is CAST: into SEEN: 1.")
    static void castBringsANumberIntoSeen() {
        for (int from = INT; from <= DOUBLE; from++) {
            for (int to = INT; to <= DOUBLE; to++) {
                long want = one(to);
                makes(1, cast(from, to, one(from)), s -> s.to("seen()", want));
            }
        }
        makes(1, cast(DOUBLE, FLOAT, bits(-1e300)), s -> s.to("seen()", bits(false, -INFINITE)));
    }

    @Says(in = "Promise 23", words = "OUTSIDE: KINDS,")
    static void castOfNoKindIsOutside() {
        for (int no : NO_KINDS) {
            for (int kind = INT; kind <= DOUBLE; kind++) {
                refused(OUTSIDE, cast(no, kind, 0));
                refused(OUTSIDE, cast(kind, no, 0));
            }
            refused(OUTSIDE, cast(no, no, 0));
        }
    }

    @Says(in = "Promise 23", words = "a no number.")
    static void castOfNoNumberIsOutside() {
        for (boolean fine : KINDS) {
            for (int to = INT; to <= DOUBLE; to++) {
                for (long bits : unfit(fine)) {
                    double x = fine ? Double.longBitsToDouble(bits) : Float.intBitsToFloat((int) bits);
                    if (Double.isNaN(x)) {
                        refused(OUTSIDE, cast(fine ? DOUBLE : FLOAT, to, bits));
                    } else {
                        due(new OrreryDials(), cast(fine ? DOUBLE : FLOAT, to, bits), 1);
                    }
                }
            }
        }
        // Whole ones of such bits are numbers, and so is a float below what would be a double's.
        due(new OrreryDials(), cast(INT, LONG, 0x7fc00000L), 1);
        due(new OrreryDials(), cast(LONG, INT, 0x7ff8000000000000L), 1);
        due(new OrreryDials(), cast(FLOAT, INT, 0x7ff800003f800000L), 1);
        due(new OrreryDials(), cast(DOUBLE, INT, 0x000000007fc00000L), 1);
    }

    // ---- Promise 24: left

    @Says(in = "Promise 24", words = "What is LEFT of x by y (FLOATS, or DOUBLES, if they are fine) comes into SEEN: 1.")
    static void leftBringsWhatIsLeftIntoSeen() {
        makes(1, left(false, bits(1f), bits(0.1f)), s -> s.to("seen()", bits(1f % 0.1f)));
        makes(1, left(true, bits(1.0), bits(0.1)), s -> s.to("seen()", bits(1.0 % 0.1)));
        makes(1, left(false, bits(-7f), bits(-3f)), s -> s.to("seen()", bits(-1f)));
        makes(1, left(true, bits(-7.0), bits(-3.0)), s -> s.to("seen()", bits(-1.0)));
    }

    @Says(in = "Promise 24", words = "OUTSIDE: x is not FIT;")
    static void leftOfWhatIsNotFitIsOutside() {
        for (boolean fine : KINDS) {
            for (long x : unfit(fine)) {
                refused(OUTSIDE, left(fine, x, bits(fine, 1)));
                refused(OUTSIDE, left(fine, x, bits(fine, INFINITE)));
            }
            for (long x : fitEnds(fine)) {
                makes(1, left(fine, x, bits(fine, INFINITE)), s -> s.to("seen()", x));
            }
        }
    }

    @Says(in = "Promise 24", words = "y is 0")
    static void leftByZeroIsOutside() {
        for (boolean fine : KINDS) {
            for (double zero : new double[] {0.0, -0.0}) {
                refused(OUTSIDE, left(fine, bits(fine, 1), bits(fine, zero)));
                refused(OUTSIDE, left(fine, bits(fine, 0.0), bits(fine, zero)));
            }
            for (double sign : new double[] {1, -1}) {
                makes(1, left(fine, bits(fine, 1), bits(fine, sign * least(fine))), s -> s.to("seen()", 0));
            }
        }
        refused(OUTSIDE, left(false, bits(1f), 0x3ff0000000000000L));
        refused(OUTSIDE, left(false, bits(1f), 0x3ff0000080000000L));
    }

    @Says(in = "Promise 24", words = "or a no number.")
    static void leftByNoNumberIsOutside() {
        for (boolean fine : KINDS) {
            for (long y : unfit(fine)) {
                double by = fine ? Double.longBitsToDouble(y) : Float.intBitsToFloat((int) y);
                if (Double.isNaN(by)) {
                    refused(OUTSIDE, left(fine, bits(fine, 1), y));
                } else {
                    makes(1, left(fine, bits(fine, 1), y), s -> s.to("seen()", bits(fine, 1)));
                }
            }
        }
    }

    // ---- Promise 25: failed

    @Says(in = "Promise 25", words = "The FAILURE of the latest call that could FAIL")
    static void failedTellsTheLatestFailure() {
        for (int failure : FAILURES) {
            due(Orrery.busy(failure), failed(), failure);
            leavesAll(latest -> Orrery.busy(failure), failure, failed());
        }
        for (int failure : FAILURES) {
            OrreryDials x = Orrery.busy(failure);
            for (Call call : new Call[] {
                dial(true, bits(2.0)), place(0, 0), laps(0), fine(0), drive(0, 0), fit(4, 0), pulls(0),
                log(3, true, 2), seen(), cast(0, 0, 0), left(true, 0, bits(1.0)), about(2), failed(),
            }) {
                call.on(x);
                due("failed() after " + call.text() + ", which can not fail", x.failed(), failure);
            }
        }
    }

    @Says(in = "Promise 25", words = "and was not refused")
    static void failedDoesNotTellOfRefusals() {
        for (int failure : FAILURES) {
            OrreryDials x = Orrery.busy(failure);
            for (Call call : new Call[] {
                turn(4, 0), turn(1, -1), spin(4, 0, 1), spin(1, -1, 1), spin(1, 0, 41), pull(6, 0), pull(0, 4),
                gear(6, 0), gear(0, 1001), lay(2, 0, 0), lay(0, 0, 6), wind(2, 0), wind(0, 4), laid(2, 0),
                write(8, true, 0, 0), write(0, true, 0, -1), read(8, true, 0), note(8, true, 0, 0),
                note(0, true, 0, 4), recall(8, true, 0, 0), recall(0, true, 0, 4), sift(8, true, 0),
                sift(0, true, -1),
            }) {
                due("refused: " + call.text(), call.on(x) <= UNKNOWN ? 1 : 0, 1);
                due("failed() after " + call.text() + ", which was refused", x.failed(), failure);
            }
        }
    }

    @Says(in = "Promise 25", words = "(of spin(), wind(): of the one that ended it);")
    static void failedTellsWhatEndedASpinOrAWinding() {
        ends(0, ENDLESS, spin(2, bits(0x1p127f), 3), s -> s);
        // The spring pulls it to 0: beside where it stands, 100 is nothing.
        ends(2, NULL, wind(0, 2),
                s -> s.to("place(2, 0)", bits(35f)).more("pulls(0)", 1).more("pulls(1)", 1));
        ends(after(lay(0, 0, 3)), 0, ENDLESS, wind(0, 2), s -> s.more("pulls(3)", 1));
        ends(after(lay(0, 0, 4)), 0, NULL, wind(0, 2), s -> s);
    }

    @Says(in = "Promise 25", words = "0: none.")
    static void failedIsZeroWithoutAFailure() {
        due(new OrreryDials(), failed(), 0);
        Call[] calls = {
            turn(1, 0), spin(1, 0, 0), spin(1, 0, 1), pull(1, 1), gear(1, 7), lay(0, 0, 4), lay(0, 0, 0),
            laid(0, 0), laid(0, 2), wind(1, 1), write(0, true, 0, 0), read(0, true, 0), note(0, true, 0, 0),
            recall(0, true, 1, 0), sift(0, true, 0), sift(1, true, 0),
        };
        for (int failure : FAILURES) {
            for (Call call : calls) {
                OrreryDials x = Orrery.busy(failure);
                call.on(x);
                due("failed() after " + call.text() + ", which did not fail", x.failed(), 0);
            }
        }
    }

    // ---- Promise 26: about

    @Says(in = "Promise 26", words = "How many: 0 DIALS, 1 DRIVES,")
    static void aboutTellsHowManyDialsAndDrives() {
        tells(4, about(0));
        tells(4, about(1));
        leavesAll(Orrery::full, 12, about(0));
        leavesAll(Orrery::full, 20, about(1));
        OrreryDials x = new OrreryDials();
        x.drive(0, 0);
        x.dial(true, 0);
        x.drive(3, 0);
        due(x, about(0), 0);
        due(x, about(1), 1);
    }

    @Says(in = "Promise 26", words = "2 .. 6 FAILURES so far: NULL, PLACE, CAST, STORE, ENDLESS.")
    static void aboutTellsHowManyFailures() {
        for (int what = 2; what <= 6; what++) {
            due(new OrreryDials(), about(what), 0);
            int count = what - 1;
            leavesAll(latest -> Orrery.busy(0), count, about(what));
        }
        for (int failure : FAILURES) {
            int its = 2 + NULL - failure;
            OrreryDials x = Orrery.busy(failure);
            for (int what = 2; what <= 6; what++) {
                due(x, about(what), what - 1 + (what == its ? 1 : 0));
            }
        }
    }

    @Says(in = "Promise 26", words = "OUTSIDE.")
    static void aboutAnythingElseIsOutside() {
        for (int what : new int[] {-1, 7, MIN, MAX}) {
            refused(OUTSIDE, about(what));
        }
    }
}

import java.io.IOException;

/** Promises 1 to 7, sentence by sentence. */
public final class DialSentencesTest extends Sentences {
    /** From where dials 2 and 3 stand: the first that they can not be turned by any more. */
    private static final double TOO_FAR_COARSE = 0x1.fffffcp125, TOO_FAR_FINE = 0x1.ffffffffffffep1021;

    public static void main(String[] args) throws IOException {
        run(DialSentencesTest.class, args, "Promise 1", "Promise 2", "Promise 3", "Promise 4", "Promise 5",
                "Promise 6", "Promise 7");
    }

    private static double tooFar(boolean fine) {
        return fine ? TOO_FAR_FINE : TOO_FAR_COARSE;
    }

    // ---- Promise 1: a new object

    @Says(in = "Promise 1", words = "No DIALS, no DRIVES;")
    static void newObjectHasNoDialsAndNoDrives() {
        OrreryDials x = new OrreryDials();
        due(x, about(0), 0);
        due(x, about(1), 0);
        for (int dial = 0; dial < 12; dial++) {
            due(x, fine(dial), UNKNOWN);
            due(x, turn(dial, 0), UNKNOWN);
        }
        for (int drive = 0; drive < 20; drive++) {
            due(x, pulls(drive), UNKNOWN);
            due(x, fit(0, drive), UNKNOWN);
        }
    }

    @Says(in = "Promise 1", words = "all LOGS are MISSING.")
    static void newObjectHasAllLogsMissing() {
        OrreryDials x = new OrreryDials();
        for (int log = 0; log < 8; log++) {
            for (boolean fine : KINDS) {
                due(x, read(log, fine, 0), NULL);
                due(x, sift(log, fine, 0), NULL);
            }
        }
    }

    // ---- Promise 2: dial

    @Says(in = "Promise 2", words = "A DIAL: its number.")
    static void dialAnswersItsNumber() {
        makes(4, dial(false, bits(-2.5f)),
                s -> s.to("about(0)", 5).to("fine(4)", 0).to("place(4, 1)", bits(-2.5f)));
        makes(4, dial(true, bits(-2.5)),
                s -> s.to("about(0)", 5).to("fine(4)", 1).to("place(4, 1)", bits(-2.5)));
    }

    @Says(in = "Promise 2", words = "OUTSIDE: a RIM that is not FIT,")
    static void dialWithARimThatIsNotFitIsOutside() {
        for (boolean fine : KINDS) {
            for (long rim : unfit(fine)) {
                refused(OUTSIDE, dial(fine, rim));
            }
            OrreryDials x = new OrreryDials();
            due(x, dial(fine, bits(fine, most(fine))), 0);
            due(x, dial(fine, bits(fine, -most(fine))), 1);
        }
    }

    @Says(in = "Promise 2", words = "or 0;")
    static void dialWithARimOfZeroIsOutside() {
        for (boolean fine : KINDS) {
            refused(OUTSIDE, dial(fine, bits(fine, 0.0)));
            refused(OUTSIDE, dial(fine, bits(fine, -0.0)));
            OrreryDials x = new OrreryDials();
            due(x, dial(fine, bits(fine, least(fine))), 0);
            due(x, dial(fine, bits(fine, -least(fine))), 1);
        }
        refused(OUTSIDE, dial(false, 0x3ff0000000000000L));
        refused(OUTSIDE, dial(false, 0x0000000180000000L));
    }

    @Says(in = "Promise 2", words = "FULL.")
    static void dialBeyondTheTwelfthIsFull() {
        for (boolean fine : KINDS) {
            OrreryDials x = new OrreryDials();
            for (int i = 0; i < 12; i++) {
                due(x, dial(fine, bits(fine, 1)), i);
            }
            due(x, dial(fine, bits(fine, 1)), FULL);
            leavesAll(Orrery::full, FULL, dial(fine, bits(fine, 1)));
        }
    }

    // ---- Promise 3: turn

    @Says(in = "Promise 3", words = "It is TURNED: 1.")
    static void turnTurns() {
        does(1, turn(0, bits(356.5f)), s -> s.to("place(0, 0)", bits(1f)).to("laps(0)", 3));
        does(1, turn(1, bits(-360.0)), s -> s.to("place(1, 0)", bits(-10.25)).to("laps(1)", -3));
        does(1, turn(0, bits(0f)), s -> s);
        does(Orrery::full, 1, turn(11, bits(12.0)), s -> s.to("place(11, 0)", bits(1.0)).to("laps(11)", 1));
    }

    @Says(in = "Promise 3", words = "UNKNOWN;")
    static void turnOfNoDialIsUnknown() {
        for (int dial : NO_DIALS) {
            refused(UNKNOWN, turn(dial, 0));
        }
        leavesAll(Orrery::full, UNKNOWN, turn(12, 0));
        leavesAll(Orrery::full, UNKNOWN, turn(-1, 0));
    }

    @Says(in = "Promise 3", words = "OUTSIDE: a is not FIT.")
    static void turnByWhatIsNotFitIsOutside() {
        for (boolean fine : KINDS) {
            for (long a : unfit(fine)) {
                refused(OUTSIDE, turn(fine ? 1 : 0, a));
            }
            for (long a : fitEnds(fine)) {
                due(Orrery.dials(1), turn(fine ? 1 : 0, a), 1);
            }
        }
    }

    @Says(in = "Promise 3", words = "FAILS: ENDLESS.")
    static void turnFailsWithEndless() {
        for (boolean fine : KINDS) {
            int dial = fine ? 3 : 2;
            double end = tooFar(fine);
            fails(ENDLESS, turn(dial, bits(fine, end)));
            fails(ENDLESS, turn(dial, bits(fine, most(fine))));
            // The sum comes to the most there is, which is the rim.
            does(1, turn(dial, bits(fine, inward(fine, end))),
                    s -> s.to("place(" + dial + ", 0)", 0).to("laps(" + dial + ")", 1));
            OrreryDials x = new OrreryDials();
            x.dial(fine, bits(fine, most(fine)));
            due(x, turn(0, bits(fine, fine ? -0x1.8p1023 : -0x1.8p127)), 1);
            due(x, turn(0, bits(fine, -end)), ENDLESS);
            due(x, failed(), ENDLESS);
            due(x, turn(0, bits(fine, inward(fine, -end))), 1);
            due(x, failed(), 0);
        }
    }

    // ---- Promise 4: spin

    @Says(in = "Promise 4", words = "It is TURNED by a, n times, until one FAILS: how often it was.")
    static void spinAnswersHowOftenItTurned() {
        does(0, spin(0, bits(100f), 0), s -> s);
        does(1, spin(0, bits(100f), 1), s -> s.to("place(0, 0)", bits(104.5f)));
        does(4, spin(0, bits(100f), 4), s -> s.to("place(0, 0)", bits(44.5f)).to("laps(0)", 3));
        for (boolean fine : KINDS) {
            int dial = fine ? 3 : 2;
            long by = bits(fine, fine ? 0x1p1021 : 0x1p125);
            String place = "place(" + dial + ", 0)";
            long once = bits(fine, fine ? 0x1.cp1023 : 0x1.cp127);
            does(1, spin(dial, by, 1), s -> s.to(place, once));
            ends(1, ENDLESS, spin(dial, by, 2), s -> s.to(place, once));
            ends(1, ENDLESS, spin(dial, by, 40), s -> s.to(place, once));
            ends(0, ENDLESS, spin(dial, bits(fine, tooFar(fine)), 1), s -> s);
            does(0, spin(dial, bits(fine, tooFar(fine)), 0), s -> s);
        }
    }

    @Says(in = "Promise 4", words = "UNKNOWN;")
    static void spinOfNoDialIsUnknown() {
        for (int dial : NO_DIALS) {
            refused(UNKNOWN, spin(dial, 0, 1));
        }
        leavesAll(Orrery::full, UNKNOWN, spin(12, 0, 1));
        does(Orrery::full, 1, spin(11, 0, 1), s -> s);
    }

    @Says(in = "Promise 4", words = "OUTSIDE: a;")
    static void spinByWhatIsNotFitIsOutside() {
        for (boolean fine : KINDS) {
            for (long a : unfit(fine)) {
                refused(OUTSIDE, spin(fine ? 1 : 0, a, 1));
                refused(OUTSIDE, spin(fine ? 1 : 0, a, 0));
            }
            for (long a : fitEnds(fine)) {
                due(Orrery.dials(1), spin(fine ? 1 : 0, a, 1), 1);
            }
        }
    }

    @Says(in = "Promise 4", words = "n is not 0 .. 40.")
    static void spinOutsideOfZeroToFortyIsOutside() {
        for (int n : new int[] {-1, 41, MIN, MAX}) {
            refused(OUTSIDE, spin(0, bits(1f), n));
            refused(OUTSIDE, spin(1, bits(1.0), n));
        }
        does(0, spin(1, bits(1.0), 0), s -> s);
        does(40, spin(1, bits(1.0), 40), s -> s.to("place(1, 0)", bits(29.75)));
        does(39, spin(1, bits(1.0), 39), s -> s.to("place(1, 0)", bits(28.75)));
    }

    // ---- Promise 5: place

    @Says(in = "Promise 5", words = "BITS of PLACE (what = 0), of RIM (1).")
    static void placeTellsPlaceAndRim() {
        tells(bits(4.5f), place(0, 0));
        tells(bits(360f), place(0, 1));
        tells(bits(-10.25), place(1, 0));
        tells(bits(360.0), place(1, 1));
        OrreryDials x = Orrery.dials(-2.5);
        due(x, place(0, 1), bits(-2.5f));
        due(x, place(1, 1), bits(-2.5));
    }

    @Says(in = "Promise 5", words = "0 for others,")
    static void placeOfAnotherWhatIsZero() {
        for (int what : new int[] {-1, 2, MIN, MAX}) {
            tells(0, place(0, what));
            tells(0, place(1, what));
        }
    }

    @Says(in = "Promise 5", words = "and of none.")
    static void placeOfNoDialIsZero() {
        for (int dial : NO_DIALS) {
            tells(0, place(dial, 0));
            tells(0, place(dial, 1));
            tells(0, place(dial, 2));
        }
        leavesAll(Orrery::full, 0, place(12, 1));
        leavesAll(Orrery::full, bits(11.0), place(11, 1));
    }

    // ---- Promise 6: laps

    @Says(in = "Promise 6", words = "LAPS;")
    static void lapsTellsLaps() {
        tells(2, laps(0));
        tells(-2, laps(1));
    }

    @Says(in = "Promise 6", words = "0 of none.")
    static void lapsOfNoDialIsZero() {
        for (int dial : NO_DIALS) {
            tells(0, laps(dial));
        }
        OrreryDials x = Orrery.full(0);
        x.turn(11, bits(33.0));
        due(x, laps(11), 3);
        due(x, laps(12), 0);
    }

    // ---- Promise 7: fine

    @Says(in = "Promise 7", words = "Whether a DIAL is FINE: 1, 0.")
    static void fineTellsWhetherADialIsFine() {
        for (int dial = 0; dial < 4; dial++) {
            tells(dial % 2, fine(dial));
        }
    }

    @Says(in = "Promise 7", words = "UNKNOWN.")
    static void fineOfNoDialIsUnknown() {
        for (int dial : NO_DIALS) {
            refused(UNKNOWN, fine(dial));
        }
        leavesAll(Orrery::full, UNKNOWN, fine(12));
        leavesAll(Orrery::full, 1, fine(11));
    }
}

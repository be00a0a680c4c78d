import java.io.IOException;

/** Promises 8 to 15, sentence by sentence. */
public final class DriveSentencesTest extends Sentences {
    public static void main(String[] args) throws IOException {
        run(DriveSentencesTest.class, args, "Promise 8", "Promise 9", "Promise 10", "Promise 11", "Promise 12",
                "Promise 13", "Promise 14", "Promise 15");
    }

    /** A coarse dial 0 and a fine dial 1, both of rim 1, and one drive in slot 0. */
    private static OrreryDials withDrive(int sort, double pull) {
        OrreryDials x = Orrery.dials(1);
        x.drive(sort, bits(pull));
        x.fit(0, 0);
        return x;
    }

    /** The drive in slot 0 has pulled once more, and failed or not. */
    private static void pullsOnce(OrreryDials x, int dial, int answer) {
        int before = x.pulls(0);
        due(x, pull(0, dial), answer);
        due(x, failed(), answer == 1 ? 0 : answer);
        due(x, pulls(0), before + 1);
    }

    // ---- Promise 8: drive

    @Says(in = "Promise 8", words = "A DRIVE: sort 0 a SPRING, 1 a CRANK, 2 a FLYWHEEL: its number.")
    static void driveAnswersItsNumber() {
        double[] afterTwoPulls = {3, 6, 9};
        for (int sort = SPRING; sort <= FLYWHEEL; sort++) {
            int gear = sort == SPRING ? CAST : 1;
            makes(4, drive(sort, bits(3.0)),
                    s -> s.to("about(1)", 5).to("pulls(4)", 0).to("gear of drive 4", gear));
            OrreryDials x = Orrery.dials(100);
            x.fit(0, x.drive(sort, bits(3.0)));
            due(x, pull(0, 1), 1);
            due(x, pull(0, 1), 1);
            due(x, place(1, 0), bits(afterTwoPulls[sort]));
        }
    }

    @Says(in = "Promise 8", words = "OUTSIDE: sort;")
    static void driveOfNoSortIsOutside() {
        for (int sort : new int[] {-1, 3, MIN, MAX}) {
            refused(OUTSIDE, drive(sort, bits(3.0)));
        }
    }

    @Says(in = "Promise 8", words = "PULL is not FIT;")
    static void driveWithAPullThatIsNotFitIsOutside() {
        for (int sort = SPRING; sort <= FLYWHEEL; sort++) {
            for (long pull : unfit(true)) {
                refused(OUTSIDE, drive(sort, pull));
            }
            for (long pull : fitEnds(true)) {
                due(new OrreryDials(), drive(sort, pull), 0);
            }
            // Endless as a float, but a double is told.
            due(new OrreryDials(), drive(sort, 0x7f800000L), 0);
        }
    }

    @Says(in = "Promise 8", words = "FULL.")
    static void driveBeyondTheTwentiethIsFull() {
        OrreryDials x = new OrreryDials();
        for (int i = 0; i < 20; i++) {
            due(x, drive(i % 3, bits(1.0)), i);
        }
        for (int sort = SPRING; sort <= FLYWHEEL; sort++) {
            due(x, drive(sort, bits(1.0)), FULL);
            leavesAll(Orrery::full, FULL, drive(sort, bits(1.0)));
        }
    }

    // ---- Promise 9: fit

    @Says(in = "Promise 9", words = "A SLOT holds a DRIVE (NONE: none): 1.")
    static void fitPutsADriveOrNoneIntoASlot() {
        for (int slot = 0; slot < 6; slot++) {
            String held = "slot " + slot;
            makes(1, fit(slot, 0), s -> s.to(held, 0));
            makes(1, fit(slot, 3), s -> s.to(held, 3));
            makes(1, fit(slot, NONE), s -> s.to(held, NONE));
        }
    }

    @Says(in = "Promise 9", words = "UNKNOWN.")
    static void fitOfNoSlotOrNoDriveIsUnknown() {
        for (int slot : NO_SLOTS) {
            refused(UNKNOWN, fit(slot, 0));
            refused(UNKNOWN, fit(slot, NONE));
        }
        for (int drive : NO_DRIVES) {
            if (drive != NONE) {
                refused(UNKNOWN, fit(0, drive));
                refused(UNKNOWN, fit(4, drive));
            }
        }
        refused(UNKNOWN, fit(0, -2));
        leavesAll(Orrery::full, UNKNOWN, fit(0, 20));
        due(Orrery.full(0), fit(0, 19), 1);
    }

    // ---- Promise 10: pull

    @Says(in = "Promise 10", words = "The DRIVE in a SLOT pulls a DIAL: it is TURNED: 1.")
    static void pullTurnsADial() {
        does(1, pull(0, 0), s -> s.to("place(0, 0)", bits(100f)).more("pulls(0)", 1));
        does(1, pull(1, 0), s -> s.to("place(0, 0)", bits(39.5f)).more("pulls(1)", 1));
        does(1, pull(2, 0), s -> s.to("place(0, 0)", bits(0.5f)).more("pulls(2)", 1));
        does(1, pull(5, 1), s -> s.to("place(1, 0)", bits(24.75)).more("pulls(1)", 1));
        does(after(gear(5, -100)), 1, pull(1, 1),
                s -> s.to("place(1, 0)", bits(-150.25)).to("laps(1)", -3).more("pulls(1)", 1));
    }

    @Says(in = "Promise 10", words = "UNKNOWN.")
    static void pullOfNoSlotOrNoDialIsUnknown() {
        for (int slot : NO_SLOTS) {
            refused(UNKNOWN, pull(slot, 0));
        }
        for (int dial : NO_DIALS) {
            refused(UNKNOWN, pull(1, dial));
        }
        leavesAll(Orrery::full, UNKNOWN, pull(1, 12));
        due(Orrery.full(0), pull(1, 11), 1);
    }

    @Says(in = "Promise 10", words = "FAILS: NULL;")
    static void pullOfAnEmptySlotFailsWithNull() {
        fails(NULL, pull(4, 0));
        fails(NULL, pull(4, 1));
        for (int slot = 0; slot < 6; slot++) {
            fails(after(fit(slot, NONE)), NULL, pull(slot, 1));
        }
    }

    @Says(in = "Promise 10", words = "ENDLESS (also if what it pulls by is endless, as a DOUBLE or CAST).")
    static void pullFailsWithEndless() {
        // Where the dial comes to.
        ends(ENDLESS, ENDLESS, pull(3, 3), s -> s.more("pulls(3)", 1));
        // What it pulls by, as a double.
        ends(after(gear(3, 2)), ENDLESS, ENDLESS, pull(3, 1), s -> s.more("pulls(3)", 1));
        // What it pulls by, cast to a float.
        ends(ENDLESS, ENDLESS, pull(3, 0), s -> s.more("pulls(3)", 1));
        for (double sign : new double[] {1, -1}) {
            pullsOnce(withDrive(CRANK, sign * 0x1.fffffefffffffp127), 0, 1);
            pullsOnce(withDrive(CRANK, sign * 0x1.ffffffp127), 0, ENDLESS);
            pullsOnce(withDrive(CRANK, sign * 0x1.ffffffp127), 1, 1);
            pullsOnce(withDrive(CRANK, sign * Double.MAX_VALUE), 0, ENDLESS);
            pullsOnce(withDrive(CRANK, sign * Double.MAX_VALUE), 1, 1);
            pullsOnce(withDrive(SPRING, sign * Double.MAX_VALUE), 1, 1);
        }
    }

    @Says(in = "Promise 10", words = "ENDLESS (also if what it pulls by is endless, as a DOUBLE")
    static void pullByWhatIsEndlessAsADoubleFails() {
        for (double sign : new double[] {1, -1}) {
            OrreryDials crank = withDrive(CRANK, sign * 0x1.fffffffffffffp1022);
            crank.gear(0, 2);
            pullsOnce(crank, 1, 1);
            crank.gear(0, 3);
            pullsOnce(crank, 1, ENDLESS);
            crank.gear(0, -3);
            pullsOnce(crank, 1, ENDLESS);
            crank.gear(0, -2);
            pullsOnce(crank, 1, 1);
            OrreryDials wheel = withDrive(FLYWHEEL, sign * 0x1p1022);
            for (int times = 0; times < 3; times++) {
                pullsOnce(wheel, 1, 1);
            }
            pullsOnce(wheel, 1, ENDLESS);
            // Each part is fit, but in the end not both together.
            OrreryDials both = withDrive(FLYWHEEL, sign * 0x1p1022);
            both.gear(0, 2);
            pullsOnce(both, 1, 1);
            pullsOnce(both, 1, 1);
            pullsOnce(both, 1, ENDLESS);
            both.gear(0, -2);
            pullsOnce(both, 1, 1);
            aPartIsEndless(withDrive(FLYWHEEL, sign * 0x1p1023));
        }
        OrreryDials spring = new OrreryDials();
        spring.dial(true, bits(Double.MAX_VALUE));
        spring.turn(0, bits(-0x1.8p1023));
        spring.drive(SPRING, bits(0x1.ffffffffffffep1021));
        spring.drive(SPRING, bits(0x1.ffffffffffffdp1021));
        spring.fit(0, 0);
        spring.fit(1, 1);
        due(spring, pull(0, 0), ENDLESS);
        due(spring, place(0, 0), bits(-0x1.8p1023));
        due(spring, pull(1, 0), 1);
        due(spring, pulls(0), 1);
        due(spring, pulls(1), 1);
    }

    /** What is less than endless to the other side does not bring it back. */
    private static void aPartIsEndless(OrreryDials wheel) {
        wheel.gear(0, 0);
        pullsOnce(wheel, 1, 1);
        // Twice the pull back, once on.
        wheel.gear(0, -2);
        pullsOnce(wheel, 1, ENDLESS);
        // Once back, twice on.
        wheel.gear(0, -1);
        pullsOnce(wheel, 1, ENDLESS);
        // Both are endless, to opposite sides.
        wheel.gear(0, -3);
        pullsOnce(wheel, 1, ENDLESS);
        wheel.gear(0, -1000);
        pullsOnce(wheel, 1, ENDLESS);
        due(wheel, place(1, 0), 0);
    }

    @Says(in = "Promise 10", words = "(A DRIVE has pulled, in that case, too.)")
    static void pullThatIsEndlessHasPulled() {
        OrreryDials x = withDrive(FLYWHEEL, 0x1p126);
        x.gear(0, 0);
        pullsOnce(x, 0, 1);
        pullsOnce(x, 0, 1);
        pullsOnce(x, 0, 1);
        pullsOnce(x, 0, 1);
        // Four and five times the pull are endless as floats.
        pullsOnce(x, 0, ENDLESS);
        pullsOnce(x, 0, ENDLESS);
        x.gear(0, -5);
        pullsOnce(x, 0, 1);
        // It pulled seven times before, and 7 - 3 is too much; without those two it would be 5 - 3.
        x.gear(0, -3);
        pullsOnce(x, 0, ENDLESS);
        due(x, pulls(0), 8);
        // Where no drive is, none has pulled.
        fails(NULL, pull(4, 0));
    }

    // ---- Promise 11: gear

    @Says(in = "Promise 11", words = "The GEAR of the CRANK in a SLOT becomes g: what it was.")
    static void gearAnswersWhatItWas() {
        does(7, gear(1, 9), s -> s.to("gear of drive 1", 9));
        does(7, gear(5, 0), s -> s.to("gear of drive 1", 0));
        does(-3, gear(2, 4), s -> s.to("gear of drive 2", 4));
        does(1, gear(3, -1), s -> s.to("gear of drive 3", -1));
        does(7, gear(1, 7), s -> s);
    }

    @Says(in = "Promise 11", words = "UNKNOWN;")
    static void gearOfNoSlotIsUnknown() {
        for (int slot : NO_SLOTS) {
            refused(UNKNOWN, gear(slot, 1));
        }
    }

    @Says(in = "Promise 11", words = "OUTSIDE: g is not -1000 .. 1000.")
    static void gearBeyondAThousandIsOutside() {
        for (int slot : new int[] {1, 2}) {
            for (int g : new int[] {-1001, 1001, MIN, MAX}) {
                refused(OUTSIDE, gear(slot, g));
            }
        }
        does(7, gear(1, 1000), s -> s.to("gear of drive 1", 1000));
        does(7, gear(1, -1000), s -> s.to("gear of drive 1", -1000));
    }

    @Says(in = "Promise 11", words = "FAILS: NULL,")
    static void gearOfAnEmptySlotFailsWithNull() {
        fails(NULL, gear(4, 1));
        fails(NULL, gear(4, 1000));
        fails(NULL, gear(4, -1000));
    }

    @Says(in = "Promise 11", words = "CAST (a SPRING).")
    static void gearOfASpringFailsWithCast() {
        fails(CAST, gear(0, 1));
        fails(after(fit(5, 0)), CAST, gear(5, -1000));
    }

    @Says(in = "Promise 11", words = "(What it was may be such a number, too: failed() tells.)")
    static void gearThatWasAFailuresNumberDidNotFail() {
        for (int was : new int[] {NONE, NULL, PLACE, CAST, STORE, ENDLESS, UNKNOWN, OUTSIDE, FULL}) {
            does(after(gear(1, was)), was, gear(1, 2), s -> s.to("gear of drive 1", 2));
            does(after(gear(1, was), laid(0, 4)), was, gear(1, 2), s -> s.to("gear of drive 1", 2));
        }
    }

    // ---- Promise 12: lay

    @Says(in = "Promise 12", words = "What is in a SLOT (NONE too) comes to a place of a SHAFT: 1.")
    static void layPutsADriveOrNoneToAPlace() {
        for (int shaft = 0; shaft < 2; shaft++) {
            for (int i = 0; i < 4; i++) {
                String at = "laid(" + shaft + ", " + i + ")";
                does(1, lay(shaft, i, 5), s -> s.to(at, 1));
                does(1, lay(shaft, i, 2), s -> s.to(at, 2));
                does(1, lay(shaft, i, 4), s -> s.to(at, NONE));
            }
        }
        does(1, lay(0, 3, 0), s -> s.to("laid(0, 3)", 0));
    }

    @Says(in = "Promise 12", words = "UNKNOWN: SHAFT, SLOT.")
    static void layOfNoShaftOrNoSlotIsUnknown() {
        for (int shaft : NO_SHAFTS) {
            refused(UNKNOWN, lay(shaft, 0, 1));
        }
        for (int slot : NO_SLOTS) {
            refused(UNKNOWN, lay(0, 0, slot));
            refused(UNKNOWN, lay(1, 3, slot));
        }
    }

    @Says(in = "Promise 12", words = "FAILS: PLACE,")
    static void layToNoPlaceFailsWithPlace() {
        for (int i : NO_SHAFT_PLACES) {
            fails(PLACE, lay(0, i, 1));
            fails(PLACE, lay(1, i, 1));
            fails(PLACE, lay(0, i, 4));
        }
    }

    @Says(in = "Promise 12", words = "STORE (a SPRING to SHAFT 1).")
    static void layOfASpringToShaftOneFailsWithStore() {
        for (int i = 0; i < 4; i++) {
            String at = "laid(0, " + i + ")";
            fails(STORE, lay(1, i, 0));
            does(1, lay(0, i, 0), s -> s.to(at, 0));
        }
        fails(after(lay(1, 2, 4)), STORE, lay(1, 2, 0));
    }

    // ---- Promise 13: wind

    @Says(in = "Promise 13", words = "All DRIVES of a SHAFT, from place 0 on, pull a DIAL, one after the other,")
    static void windPullsByAllDrivesInTheirOrder() {
        does(after(lay(1, 2, 2)), 4, wind(1, 1),
                s -> s.to("place(1, 0)", bits(-10.25 + 35 - 4 - 2 + 35)).more("pulls(1)", 2).more("pulls(2)", 2));
        does(after(lay(0, 2, 1)), 4, wind(0, 0),
                s -> s.to("place(0, 0)", bits(100f + 35 + 35 - 4)).more("pulls(0)", 1).more("pulls(1)", 2)
                        .more("pulls(2)", 1));
        // A spring wherever it is: what pulls ahead of it comes to nothing.
        for (int at = 0; at < 4; at++) {
            OrreryDials x = Orrery.busy(0);
            for (int i = 0; i < 4; i++) {
                x.lay(0, i, i == at ? 0 : 1);
            }
            due(x, wind(0, 1), 4);
            due(x, place(1, 0), bits(100.0 + 35 * (3 - at)));
        }
    }

    @Says(in = "Promise 13", words = "until one FAILS: how many did.")
    static void windEndsAtTheFirstThatFails() {
        ends(2, NULL, wind(0, 0), s -> s.to("place(0, 0)", bits(135f)).more("pulls(0)", 1).more("pulls(1)", 1));
        ends(2, ENDLESS, wind(1, 0),
                s -> s.to("place(0, 0)", bits(35.5f)).more("pulls(1)", 1).more("pulls(2)", 1).more("pulls(3)", 1));
        // The one that failed first is told, not the one behind it.
        ends(after(lay(0, 1, 3)), 1, ENDLESS, wind(0, 0),
                s -> s.to("place(0, 0)", bits(100f)).more("pulls(0)", 1).more("pulls(3)", 1));
        ends(after(lay(1, 1, 4)), 1, NULL, wind(1, 0), s -> s.to("place(0, 0)", bits(39.5f)).more("pulls(1)", 1));
    }

    @Says(in = "Promise 13", words = "until one FAILS")
    static void windEndsAtAnyPlace() {
        for (int shaft = 0; shaft < 2; shaft++) {
            for (int at = 0; at < 4; at++) {
                int pulled = at;
                int row = shaft;
                Call[] laid = {lay(row, 0, 1), lay(row, 1, 1), lay(row, 2, 1), lay(row, 3, 1), lay(row, at, 4)};
                ends(after(laid), at, NULL, wind(row, 1),
                        s -> s.to("place(1, 0)", bits(-10.25 + 35 * pulled)).more("pulls(1)", pulled));
                laid[4] = lay(row, at, 3);
                ends(after(laid), at, ENDLESS, wind(row, 0),
                        s -> s.to("place(0, 0)", bits(4.5f + 35 * pulled)).more("pulls(1)", pulled)
                                .more("pulls(3)", 1));
            }
        }
        OrreryDials x = Orrery.dials(1);
        due(x, wind(0, 0), 0);
        due(x, failed(), NULL);
        due(x, wind(1, 1), 0);
        due(x, about(2), 2);
    }

    @Says(in = "Promise 13", words = "UNKNOWN.")
    static void windOfNoShaftOrNoDialIsUnknown() {
        for (int shaft : NO_SHAFTS) {
            refused(UNKNOWN, wind(shaft, 1));
        }
        for (int dial : NO_DIALS) {
            refused(UNKNOWN, wind(0, dial));
            refused(UNKNOWN, wind(1, dial));
        }
        leavesAll(Orrery::full, UNKNOWN, wind(0, 12));
        due(Orrery.full(0), wind(0, 11), 2);
    }

    // ---- Promise 14: laid

    @Says(in = "Promise 14", words = "The number of the DRIVE at a place of a SHAFT; NONE.")
    static void laidTellsADriveOrNone() {
        int[][] laid = {{0, 1, NONE, 2}, {1, 2, 3, 1}};
        for (int shaft = 0; shaft < 2; shaft++) {
            for (int i = 0; i < 4; i++) {
                does(laid[shaft][i], laid(shaft, i), s -> s);
                due(new OrreryDials(), laid(shaft, i), NONE);
            }
        }
    }

    @Says(in = "Promise 14", words = "UNKNOWN.")
    static void laidOfNoShaftIsUnknown() {
        for (int shaft : NO_SHAFTS) {
            refused(UNKNOWN, laid(shaft, 0));
        }
    }

    @Says(in = "Promise 14", words = "FAILS: PLACE.")
    static void laidAtNoPlaceFailsWithPlace() {
        for (int i : NO_SHAFT_PLACES) {
            fails(PLACE, laid(0, i));
            fails(PLACE, laid(1, i));
        }
    }

    // ---- Promise 15: pulls

    @Says(in = "Promise 15", words = "How often a DRIVE pulled.")
    static void pullsTellsHowOftenADrivePulled() {
        tells(0, pulls(0));
        tells(1, pulls(2));
        OrreryDials x = Orrery.busy(0);
        x.pull(1, 0);
        x.pull(5, 1);
        x.wind(1, 1);
        x.pull(3, 0);
        due(x, pulls(0), 0);
        due(x, pulls(1), 4);
        due(x, pulls(2), 2);
        due(x, pulls(3), 2);
    }

    @Says(in = "Promise 15", words = "UNKNOWN.")
    static void pullsOfNoDriveIsUnknown() {
        for (int drive : NO_DRIVES) {
            refused(UNKNOWN, pulls(drive));
        }
        leavesAll(Orrery::full, UNKNOWN, pulls(20));
        leavesAll(Orrery::full, 0, pulls(19));
    }
}

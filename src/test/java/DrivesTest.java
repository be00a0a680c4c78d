/** Promises 8 to 15: drive, fit, pull, gear, lay, wind, laid, pulls. */
public final class DrivesTest {
    private static final Due DUE = new Due("DrivesTest");
    private static final int SPRING = 0, CRANK = 1, FLYWHEEL = 2;

    public static void main(String[] args) {
        drive();
        driveRefused();
        fit();
        pullOfSpring();
        pullOfCrank();
        pullOfFlywheel();
        pullComesInTheDialsKind();
        pullRefusedOrFailing();
        pullEndless();
        flywheelEndlessToBothSides();
        gear();
        gearLikeAFailure();
        lay();
        layFailing();
        wind();
        windNull();
        windEndless();
        longWind();
        laid();
        pulls();
        DUE.end();
    }

    /** A coarse dial 0 and a fine dial 1 with wide rims. */
    private static OrreryDials withDials() {
        OrreryDials x = new OrreryDials();
        x.dial(false, Due.bits(Float.MAX_VALUE));
        x.dial(true, Due.bits(Double.MAX_VALUE));
        return x;
    }

    /** Puts a new drive into a slot. */
    private static int fitted(OrreryDials x, int slot, int sort, double pull) {
        int drive = x.drive(sort, Due.bits(pull));
        DUE.due("fit(" + slot + ", " + drive + ")", x.fit(slot, drive), 1);
        return drive;
    }

    private static void pulledTo(OrreryDials x, int slot, int dial, double place) {
        DUE.due("pull(" + slot + ", " + dial + ")", x.pull(slot, dial), 1);
        DUE.due("failed()", x.failed(), 0);
        standsAt(x, dial, place);
    }

    private static void standsAt(OrreryDials x, int dial, double place) {
        DUE.due("place(" + dial + ", 0)", x.place(dial, 0), Due.bits(x.fine(dial) == 1, place));
    }

    private static void drive() {
        OrreryDials x = new OrreryDials();
        for (int i = 0; i < 20; i++) {
            DUE.due("drive " + i, x.drive(i % 3, Due.bits(i - 5.5)), i);
            DUE.due("about(1)", x.about(1), i + 1);
        }
        DUE.due("a 21st drive", x.drive(0, 0), OrreryDials.FULL);
        DUE.due("a 21st drive of no sort", x.drive(3, 0), OrreryDials.OUTSIDE);
        DUE.due("a 21st drive, unfit", x.drive(0, -1), OrreryDials.OUTSIDE);
        DUE.due("about(1)", x.about(1), 20);
    }

    private static void driveRefused() {
        OrreryDials x = new OrreryDials();
        DUE.due("sort -1", x.drive(-1, 0), OrreryDials.OUTSIDE);
        DUE.due("sort 3", x.drive(3, 0), OrreryDials.OUTSIDE);
        DUE.due("endless", x.drive(1, Due.bits(Double.POSITIVE_INFINITY)), OrreryDials.OUTSIDE);
        DUE.due("endless below 0", x.drive(1, Due.bits(Double.NEGATIVE_INFINITY)), OrreryDials.OUTSIDE);
        DUE.due("no number", x.drive(2, Due.bits(Double.NaN)), OrreryDials.OUTSIDE);
        DUE.due("about(1)", x.about(1), 0);
        DUE.due("0", x.drive(2, 0), 0);
        DUE.due("the most", x.drive(2, Due.bits(-Double.MAX_VALUE)), 1);
    }

    private static void fit() {
        OrreryDials x = withDials();
        DUE.due("fit(0, 0)", x.fit(0, 0), OrreryDials.UNKNOWN);
        x.drive(CRANK, Due.bits(2.0));
        for (int slot = 0; slot < 6; slot++) {
            DUE.due("none at first", x.pull(slot, 0), OrreryDials.NULL);
            DUE.due("fit(" + slot + ", 0)", x.fit(slot, 0), 1);
            DUE.due("pull", x.pull(slot, 0), 1);
        }
        DUE.due("fit does not fail", x.failed(), 0);
        DUE.due("fit(6, 0)", x.fit(6, 0), OrreryDials.UNKNOWN);
        DUE.due("fit(-1, 0)", x.fit(-1, 0), OrreryDials.UNKNOWN);
        DUE.due("fit(0, 1)", x.fit(0, 1), OrreryDials.UNKNOWN);
        DUE.due("fit(0, -2)", x.fit(0, -2), OrreryDials.UNKNOWN);
        DUE.due("fit(6, NONE)", x.fit(6, OrreryDials.NONE), OrreryDials.UNKNOWN);
        DUE.due("still there", x.pull(0, 0), 1);
        DUE.due("fit(0, NONE)", x.fit(0, OrreryDials.NONE), 1);
        DUE.due("none any more", x.pull(0, 0), OrreryDials.NULL);
    }

    private static void pullOfSpring() {
        OrreryDials x = withDials();
        fitted(x, 0, SPRING, 10);
        pulledTo(x, 0, 0, 10);
        x.turn(0, Due.bits(-14f));
        pulledTo(x, 0, 0, 10);
        x.turn(1, Due.bits(0.25));
        pulledTo(x, 0, 1, 10);
        fitted(x, 1, SPRING, 0.1);
        // 0.1 less the place is reckoned as a double, then cast to a float.
        pulledTo(x, 1, 0, 10f + (float) (0.1 - 10.0));
        DUE.due("gear of a spring", x.gear(0, 2), OrreryDials.CAST);
    }

    private static void pullOfCrank() {
        OrreryDials x = withDials();
        fitted(x, 0, CRANK, 2.5);
        pulledTo(x, 0, 0, 2.5);
        pulledTo(x, 0, 0, 5);
        x.gear(0, -4);
        pulledTo(x, 0, 0, -5);
        x.gear(0, 0);
        pulledTo(x, 0, 0, -5);
        x.gear(0, 1000);
        pulledTo(x, 0, 1, 2500);
    }

    private static void pullOfFlywheel() {
        OrreryDials x = withDials();
        fitted(x, 0, FLYWHEEL, 3);
        pulledTo(x, 0, 0, 3);
        pulledTo(x, 0, 0, 3 + 6);
        pulledTo(x, 0, 1, 9);
        x.gear(0, -10);
        pulledTo(x, 0, 1, 9 - 30 + 9);
        fitted(x, 1, FLYWHEEL, 0.1);
        x.gear(1, 3);
        double place = 0;
        x.dial(true, Due.bits(1e6));
        for (int before = 0; before < 12; before++) {
            // Both products are rounded before they come together.
            place += 0.1 * 3 + 0.1 * before;
            pulledTo(x, 1, 2, place);
        }
    }

    private static void pullComesInTheDialsKind() {
        OrreryDials x = withDials();
        fitted(x, 0, CRANK, 0.1);
        pulledTo(x, 0, 0, 0.1f);
        pulledTo(x, 0, 1, 0.1);
        x.dial(false, Due.bits(360f));
        fitted(x, 1, CRANK, 730.5);
        pulledTo(x, 1, 2, 10.5);
        DUE.due("laps(2)", x.laps(2), 2);
    }

    private static void pullRefusedOrFailing() {
        OrreryDials x = withDials();
        fitted(x, 0, CRANK, 1);
        DUE.due("pull(-1, 0)", x.pull(-1, 0), OrreryDials.UNKNOWN);
        DUE.due("pull(6, 0)", x.pull(6, 0), OrreryDials.UNKNOWN);
        DUE.due("pull(0, 2)", x.pull(0, 2), OrreryDials.UNKNOWN);
        DUE.due("pull(0, -1)", x.pull(0, -1), OrreryDials.UNKNOWN);
        DUE.due("pull(1, 2)", x.pull(1, 2), OrreryDials.UNKNOWN);
        DUE.due("about(2)", x.about(2), 0);
        DUE.due("pull(1, 0)", x.pull(1, 0), OrreryDials.NULL);
        DUE.due("about(2)", x.about(2), 1);
        DUE.due("failed()", x.failed(), OrreryDials.NULL);
        DUE.due("pulls(0)", x.pulls(0), 0);
    }

    private static void pullEndless() {
        OrreryDials x = withDials();
        int strong = fitted(x, 0, CRANK, 1e308);
        x.gear(0, 10);
        DUE.due("endless as a double", x.pull(0, 1), OrreryDials.ENDLESS);
        DUE.due("it has pulled", x.pulls(strong), 1);
        x.gear(0, 1);
        DUE.due("endless as a float", x.pull(0, 0), OrreryDials.ENDLESS);
        DUE.due("it has pulled", x.pulls(strong), 2);
        pulledTo(x, 0, 1, 1e308);
        DUE.due("endless where it comes to", x.pull(0, 1), OrreryDials.ENDLESS);
        standsAt(x, 1, 1e308);
        standsAt(x, 0, 0);
        DUE.due("laps(1)", x.laps(1), 0);
        DUE.due("it has pulled", x.pulls(strong), 4);
        DUE.due("about(6)", x.about(6), 3);
        int spring = fitted(x, 1, SPRING, -1e308);
        DUE.due("a spring, endless", x.pull(1, 1), OrreryDials.ENDLESS);
        DUE.due("it has pulled", x.pulls(spring), 1);
        int wheel = fitted(x, 2, FLYWHEEL, -0x1p127);
        pulledTo(x, 2, 0, -0x1p127);
        DUE.due("a flywheel, endless as a float", x.pull(2, 0), OrreryDials.ENDLESS);
        DUE.due("it has pulled", x.pulls(wheel), 2);
        // The largest double that is nearer to the largest float than to what is endless.
        fitted(x, 3, CRANK, 0x1.fffffefffffffp127);
        x.dial(false, Due.bits(0x1p-10f));
        DUE.due("just not endless", x.pull(3, 2), 1);
        fitted(x, 4, CRANK, 0x1.ffffffp127);
        DUE.due("just endless", x.pull(4, 2), OrreryDials.ENDLESS);
    }

    private static void flywheelEndlessToBothSides() {
        OrreryDials x = withDials();
        int wheel = fitted(x, 0, FLYWHEEL, 1e308);
        x.gear(0, 0);
        pulledTo(x, 0, 1, 0);
        x.fit(1, wheel);
        x.gear(1, -1000);
        DUE.due("one part endless", x.pull(1, 1), OrreryDials.ENDLESS);
        DUE.due("both, to opposite sides", x.pull(1, 1), OrreryDials.ENDLESS);
        x.gear(1, 0);
        DUE.due("the other part endless", x.pull(1, 1), OrreryDials.ENDLESS);
        x.gear(1, -1);
        DUE.due("less than it takes to come back", x.pull(1, 1), OrreryDials.ENDLESS);
        DUE.due("pulls", x.pulls(wheel), 5);
        standsAt(x, 1, 0);
        DUE.due("about(6)", x.about(6), 4);
    }

    private static void gear() {
        OrreryDials x = withDials();
        fitted(x, 0, CRANK, 1);
        fitted(x, 1, FLYWHEEL, 1);
        fitted(x, 2, SPRING, 1);
        DUE.due("a crank's first", x.gear(0, 5), 1);
        DUE.due("a crank's next", x.gear(0, 1000), 5);
        DUE.due("a crank's next", x.gear(0, -1000), 1000);
        DUE.due("a crank's next", x.gear(0, 7), -1000);
        DUE.due("a flywheel's first", x.gear(1, 2), 1);
        DUE.due("failed()", x.failed(), 0);
        DUE.due("a spring's", x.gear(2, 2), OrreryDials.CAST);
        DUE.due("failed()", x.failed(), OrreryDials.CAST);
        DUE.due("about(4)", x.about(4), 1);
        DUE.due("none's", x.gear(3, 2), OrreryDials.NULL);
        DUE.due("about(2)", x.about(2), 1);
        DUE.due("1001", x.gear(0, 1001), OrreryDials.OUTSIDE);
        DUE.due("-1001", x.gear(0, -1001), OrreryDials.OUTSIDE);
        DUE.due("1001 of none", x.gear(3, 1001), OrreryDials.OUTSIDE);
        DUE.due("min of a spring", x.gear(2, Integer.MIN_VALUE), OrreryDials.OUTSIDE);
        DUE.due("gear(6, ..)", x.gear(6, 1001), OrreryDials.UNKNOWN);
        DUE.due("gear(-1, ..)", x.gear(-1, 0), OrreryDials.UNKNOWN);
        DUE.due("as it was", x.gear(0, 7), 7);
        x.fit(4, 0);
        DUE.due("of the drive, not of the slot", x.gear(4, 1), 7);
    }

    private static void gearLikeAFailure() {
        OrreryDials x = withDials();
        fitted(x, 0, CRANK, 1);
        x.gear(0, OrreryDials.NULL);
        DUE.due("gear that was NULL's number", x.gear(0, OrreryDials.UNKNOWN), OrreryDials.NULL);
        DUE.due("failed()", x.failed(), 0);
        DUE.due("gear that was UNKNOWN's number", x.gear(0, 1), OrreryDials.UNKNOWN);
        DUE.due("failed()", x.failed(), 0);
        DUE.due("about(2)", x.about(2), 0);
    }

    private static void lay() {
        OrreryDials x = withDials();
        int spring = fitted(x, 0, SPRING, 1);
        int crank = fitted(x, 1, CRANK, 1);
        int wheel = fitted(x, 2, FLYWHEEL, 1);
        for (int i = 0; i < 4; i++) {
            DUE.due("a spring to shaft 0", x.lay(0, i, 0), 1);
            DUE.due("laid", x.laid(0, i), spring);
            DUE.due("a crank to shaft 1", x.lay(1, i, 1), 1);
            DUE.due("laid", x.laid(1, i), crank);
        }
        DUE.due("a flywheel to shaft 1", x.lay(1, 2, 2), 1);
        DUE.due("laid(1, 2)", x.laid(1, 2), wheel);
        DUE.due("laid(1, 1)", x.laid(1, 1), crank);
        DUE.due("laid(0, 2)", x.laid(0, 2), spring);
        DUE.due("none to shaft 1", x.lay(1, 2, 3), 1);
        DUE.due("laid(1, 2)", x.laid(1, 2), OrreryDials.NONE);
        DUE.due("none to shaft 0", x.lay(0, 0, 3), 1);
        DUE.due("laid(0, 0)", x.laid(0, 0), OrreryDials.NONE);
        x.fit(1, OrreryDials.NONE);
        DUE.due("what was laid stays", x.laid(1, 0), crank);
    }

    private static void layFailing() {
        OrreryDials x = withDials();
        fitted(x, 0, SPRING, 1);
        int crank = fitted(x, 1, CRANK, 1);
        x.lay(1, 0, 1);
        DUE.due("a spring to shaft 1", x.lay(1, 0, 0), OrreryDials.STORE);
        DUE.due("failed()", x.failed(), OrreryDials.STORE);
        DUE.due("about(5)", x.about(5), 1);
        DUE.due("laid(1, 0)", x.laid(1, 0), crank);
        DUE.due("a spring to no place", x.lay(1, 4, 0), OrreryDials.PLACE);
        DUE.due("failed()", x.failed(), OrreryDials.PLACE);
        DUE.due("place -1", x.lay(0, -1, 0), OrreryDials.PLACE);
        DUE.due("place max", x.lay(0, Integer.MAX_VALUE, 0), OrreryDials.PLACE);
        DUE.due("place min", x.lay(1, Integer.MIN_VALUE, 3), OrreryDials.PLACE);
        DUE.due("about(3)", x.about(3), 4);
        DUE.due("shaft 2", x.lay(2, 4, 0), OrreryDials.UNKNOWN);
        DUE.due("shaft -1", x.lay(-1, 0, 0), OrreryDials.UNKNOWN);
        DUE.due("slot 6", x.lay(1, 4, 6), OrreryDials.UNKNOWN);
        DUE.due("slot NONE", x.lay(1, 0, OrreryDials.NONE), OrreryDials.UNKNOWN);
        DUE.due("about(3)", x.about(3), 4);
    }

    private static void wind() {
        OrreryDials x = withDials();
        int spring = fitted(x, 0, SPRING, 100);
        int crank = fitted(x, 1, CRANK, 5);
        int wheel = fitted(x, 2, FLYWHEEL, 2);
        layRow(x, 0, 1, 1, 0, 2);
        DUE.due("wind(0, 0)", x.wind(0, 0), 4);
        DUE.due("failed()", x.failed(), 0);
        standsAt(x, 0, 102);
        DUE.due("wind(0, 0)", x.wind(0, 0), 4);
        standsAt(x, 0, 104);
        layRow(x, 1, 2, 1, 2, 1);
        DUE.due("the same ones twice", x.wind(1, 1), 4);
        standsAt(x, 1, (2 + 4) + 5 + (2 + 6) + 5);
        DUE.due("pulls", x.pulls(wheel), 4);
        DUE.due("pulls", x.pulls(spring), 2);
        DUE.due("pulls", x.pulls(crank), 6);
        DUE.due("wind(2, 0)", x.wind(2, 0), OrreryDials.UNKNOWN);
        DUE.due("wind(-1, 0)", x.wind(-1, 0), OrreryDials.UNKNOWN);
        DUE.due("wind(0, 2)", x.wind(0, 2), OrreryDials.UNKNOWN);
        DUE.due("wind(0, -1)", x.wind(0, -1), OrreryDials.UNKNOWN);
        DUE.due("no failure", x.about(2), 0);
    }

    private static void layRow(OrreryDials x, int shaft, int... slots) {
        for (int i = 0; i < slots.length; i++) {
            DUE.due("lay to place " + i, x.lay(shaft, i, slots[i]), 1);
        }
    }

    /** A place without a drive fails and ends the winding, wherever it is. */
    private static void windNull() {
        for (int shaft = 0; shaft < 2; shaft++) {
            OrreryDials x = withDials();
            DUE.due("wind of an empty shaft", x.wind(shaft, 0), 0);
            DUE.due("failed()", x.failed(), OrreryDials.NULL);
            DUE.due("about(2)", x.about(2), 1);
            int crank = fitted(x, 0, CRANK, 5);
            for (int empty = 0; empty < 4; empty++) {
                layRow(x, shaft, 0, 0, 0, 0);
                x.lay(shaft, empty, 1);
                int before = x.pulls(crank);
                DUE.due("wind to place " + empty, x.wind(shaft, 1), empty);
                DUE.due("failed()", x.failed(), OrreryDials.NULL);
                DUE.due("about(2)", x.about(2), 2 + empty);
                DUE.due("those ahead of it have pulled", x.pulls(crank), before + empty);
                standsAt(x, 1, 5 * x.pulls(crank));
            }
            x.lay(shaft, 3, 0);
            DUE.due("wind a full shaft", x.wind(shaft, 1), 4);
            DUE.due("failed()", x.failed(), 0);
            DUE.due("about(2)", x.about(2), 5);
            DUE.due("about(6)", x.about(6), 0);
        }
    }

    private static void windEndless() {
        OrreryDials x = withDials();
        int weak = fitted(x, 0, CRANK, 1);
        int strong = fitted(x, 1, CRANK, 1e300);
        int last = fitted(x, 2, CRANK, 1);
        layRow(x, 0, 0, 1, 2, 2);
        DUE.due("wind until one fails", x.wind(0, 0), 1);
        DUE.due("failed()", x.failed(), OrreryDials.ENDLESS);
        DUE.due("about(6)", x.about(6), 1);
        standsAt(x, 0, 1);
        DUE.due("pulls", x.pulls(weak), 1);
        DUE.due("the one that failed has pulled", x.pulls(strong), 1);
        DUE.due("the one behind it has not", x.pulls(last), 0);
        DUE.due("wind a fine one", x.wind(0, 1), 4);
        DUE.due("failed()", x.failed(), 0);
        DUE.due("pulls", x.pulls(last), 2);
        x.lay(0, 2, 3);
        DUE.due("the first that fails ends it", x.wind(0, 0), 1);
        DUE.due("failed()", x.failed(), OrreryDials.ENDLESS);
        DUE.due("about(2)", x.about(2), 0);
    }

    /** A flywheel that pulled more often than 1024 times, with a mantissa that needs all its bits. */
    private static void longWind() {
        double pull = 0x1.fffffffffffffp0;
        OrreryDials x = new OrreryDials();
        x.dial(true, Due.bits(1e9));
        int wheel = fitted(x, 0, FLYWHEEL, pull);
        x.gear(0, 0);
        for (int i = 0; i < 4; i++) {
            x.lay(1, i, 0);
        }
        double place = 0;
        for (int i = 0; i < 500; i++) {
            for (int k = 0; k < 4; k++) {
                place = (place + pull * (4 * i + k)) % 1e9;
            }
            if (x.wind(1, 0) != 4) {
                DUE.due("wind " + i, 0, 4);
            }
        }
        standsAt(x, 0, place);
        DUE.due("pulls", x.pulls(wheel), 2000);
    }

    private static void laid() {
        OrreryDials x = new OrreryDials();
        for (int i = 0; i < 4; i++) {
            DUE.due("none at first", x.laid(0, i), OrreryDials.NONE);
            DUE.due("none at first", x.laid(1, i), OrreryDials.NONE);
        }
        DUE.due("failed()", x.failed(), 0);
        DUE.due("laid(0, 4)", x.laid(0, 4), OrreryDials.PLACE);
        DUE.due("laid(0, -1)", x.laid(0, -1), OrreryDials.PLACE);
        DUE.due("laid(1, max)", x.laid(1, Integer.MAX_VALUE), OrreryDials.PLACE);
        DUE.due("laid(1, min)", x.laid(1, Integer.MIN_VALUE), OrreryDials.PLACE);
        DUE.due("laid(1, -4)", x.laid(1, -4), OrreryDials.PLACE);
        DUE.due("failed()", x.failed(), OrreryDials.PLACE);
        DUE.due("about(3)", x.about(3), 5);
        DUE.due("laid(2, 4)", x.laid(2, 4), OrreryDials.UNKNOWN);
        DUE.due("laid(-1, 0)", x.laid(-1, 0), OrreryDials.UNKNOWN);
        x.laid(1, 3);
        DUE.due("failed()", x.failed(), 0);
    }

    private static void pulls() {
        OrreryDials x = withDials();
        DUE.due("pulls(0)", x.pulls(0), OrreryDials.UNKNOWN);
        int spring = fitted(x, 0, SPRING, 1);
        int crank = fitted(x, 1, CRANK, 1);
        DUE.due("at first", x.pulls(spring), 0);
        x.pull(0, 0);
        x.pull(0, 1);
        x.pull(1, 0);
        DUE.due("a spring's", x.pulls(spring), 2);
        DUE.due("a crank's", x.pulls(crank), 1);
        DUE.due("pulls(2)", x.pulls(2), OrreryDials.UNKNOWN);
        DUE.due("pulls(NONE)", x.pulls(OrreryDials.NONE), OrreryDials.UNKNOWN);
    }
}

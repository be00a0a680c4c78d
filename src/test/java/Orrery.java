/**
 * Objects that hold something of everything, made alike every time.
 *
 * <p>Dials 0 (coarse, rim 360, place 4.5, laps 2), 1 (fine, rim 360, place -10.25, laps -2), 2 and 3 (coarse
 * and fine, rim MAX_VALUE, three quarters of the way to what is endless). Drives 0 a spring of 100, 1 a crank of
 * 5 (gear 7), 2 a flywheel of 2 (gear -3, it pulled once), 3 a crank of 1e308; slots 0 to 3 hold them in that
 * order, 4 none, 5 drive 1. Shaft 0: drives 0, 1, none, 2; shaft 1: drives 1, 2, 3, 1. Log 0: floats 1.5, -0.0,
 * 2.5 and doubles 1e300, 7; log 1: no floats, doubles of 0 places; log 7: 16 floats (9 first, 3.5 last), a
 * double -0.5; the others MISSING. SEEN is 77.
 */
final class Orrery {
    private static final int[] FAILURES = {
        OrreryDials.NULL, OrreryDials.PLACE, OrreryDials.CAST, OrreryDials.STORE, OrreryDials.ENDLESS,
    };

    private Orrery() {
    }

    /** Its latest call that could fail had this failure; 0: none. Of each failure it had another number. */
    static OrreryDials busy(int latest) {
        OrreryDials x = new OrreryDials();
        makeDials(x);
        makeDrives(x);
        layShafts(x);
        writeLogs(x);
        x.cast(1, 1, 77);
        for (int i = 0; i < FAILURES.length; i++) {
            for (int times = 0; times <= i; times++) {
                fail(x, FAILURES[i]);
            }
        }
        fail(x, latest);
        return x;
    }

    /** The same with 12 dials, odd ones fine, and 20 drives, their sorts in turn. */
    static OrreryDials full(int latest) {
        OrreryDials x = busy(latest);
        for (int dial = 4; dial < 12; dial++) {
            x.dial(dial % 2 == 1, Due.bits(dial % 2 == 1, dial));
        }
        for (int drive = 4; drive < 20; drive++) {
            x.drive(drive % 3, Due.bits((double) drive));
        }
        return x;
    }

    /** A coarse dial 0 and a fine dial 1 of that rim, nothing else. */
    static OrreryDials dials(double rim) {
        OrreryDials x = new OrreryDials();
        x.dial(false, Due.bits((float) rim));
        x.dial(true, Due.bits(rim));
        return x;
    }

    private static void makeDials(OrreryDials x) {
        x.dial(false, Due.bits(360f));
        x.turn(0, Due.bits(730.5f));
        x.dial(true, Due.bits(360.0));
        x.turn(1, Due.bits(-730.25));
        x.dial(false, Due.bits(Float.MAX_VALUE));
        x.turn(2, Due.bits(0x1.8p127f));
        x.dial(true, Due.bits(Double.MAX_VALUE));
        x.turn(3, Due.bits(0x1.8p1023));
    }

    private static void makeDrives(OrreryDials x) {
        x.drive(0, Due.bits(100.0));
        x.drive(1, Due.bits(5.0));
        x.drive(2, Due.bits(2.0));
        x.drive(1, Due.bits(1e308));
        for (int i = 0; i < 4; i++) {
            x.fit(i, i);
        }
        x.fit(5, 1);
        x.gear(1, 7);
        x.gear(2, -3);
        x.pull(2, 0);
    }

    private static void layShafts(OrreryDials x) {
        x.lay(0, 0, 0);
        x.lay(0, 1, 1);
        x.lay(0, 3, 2);
        x.lay(1, 0, 1);
        x.lay(1, 1, 2);
        x.lay(1, 2, 3);
        x.lay(1, 3, 1);
    }

    private static void writeLogs(OrreryDials x) {
        x.log(0, false, 3);
        x.write(0, false, 0, Due.bits(1.5f));
        x.write(0, false, 1, Due.bits(-0.0f));
        x.write(0, false, 2, Due.bits(2.5f));
        x.log(0, true, 2);
        x.write(0, true, 0, Due.bits(1e300));
        x.write(0, true, 1, Due.bits(7.0));
        x.log(1, true, 0);
        x.log(7, false, 16);
        x.write(7, false, 0, Due.bits(9f));
        x.write(7, false, 15, Due.bits(3.5f));
        x.log(7, true, 1);
        x.write(7, true, 0, Due.bits(-0.5));
    }

    private static void fail(OrreryDials x, int failure) {
        switch (failure) {
            case OrreryDials.NULL: x.pull(4, 0); break;
            case OrreryDials.PLACE: x.laid(0, 4); break;
            case OrreryDials.CAST: x.gear(0, 0); break;
            case OrreryDials.STORE: x.lay(1, 0, 0); break;
            case OrreryDials.ENDLESS: x.turn(2, Due.bits(0x1p127f)); break;
            default: x.laid(0, 0); break;
        }
    }
}

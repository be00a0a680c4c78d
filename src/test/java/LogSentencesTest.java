import java.io.IOException;
import java.util.function.IntFunction;

/** Promises 16 to 22, sentence by sentence. */
public final class LogSentencesTest extends Sentences {
    private static final int[] SIZES = {0, 1, 15, 16};

    public static void main(String[] args) throws IOException {
        run(LogSentencesTest.class, args, "Promise 16", "Promise 17", "Promise 18", "Promise 19", "Promise 20",
                "Promise 21", "Promise 22");
    }

    private static long one(boolean fine) {
        return bits(fine, 1);
    }

    /** Log 3 has that row of n places then. */
    private static IntFunction<OrreryDials> withRow(boolean fine, int n) {
        return after(log(3, fine, n));
    }

    /** Behind the last place of a row of n, ahead of its first, and far away. */
    private static int[] noPlaces(int n) {
        return new int[] {-1, n, n + 16, MIN, MAX};
    }

    // ---- Promise 16: log

    @Says(in = "Promise 16", words = "A LOG's row of floats (of doubles, if it is fine) is a new one of n places,")
    static void logMakesANewRow() {
        for (boolean fine : KINDS) {
            for (int n : SIZES) {
                makes(1, log(0, fine, n), s -> s.newRow(fine, 0, n));
                makes(1, log(3, fine, n), s -> s.newRow(fine, 3, n));
                makes(1, log(7, fine, n), s -> s.newRow(fine, 7, n));
            }
        }
        // A shorter row, then a longer one: nothing of the first is left.
        OrreryDials x = Orrery.busy(0);
        x.log(7, false, 1);
        x.log(7, false, 16);
        due(x, read(7, false, 15), 1);
        due(x, seen(), 0);
    }

    @Says(in = "Promise 16", words = "MISSING with NONE: 1.")
    static void logOfNoneIsMissing() {
        for (boolean fine : KINDS) {
            for (int log : new int[] {0, 3, 7}) {
                makes(1, log(log, fine, NONE), s -> s.newRow(fine, log, NONE));
            }
        }
        OrreryDials x = Orrery.busy(0);
        x.log(0, false, NONE);
        x.log(0, false, 3);
        due(x, read(0, false, 0), 1);
        due(x, seen(), 0);
    }

    @Says(in = "Promise 16", words = "UNKNOWN;")
    static void logOfNoLogIsUnknown() {
        for (int log : NO_LOGS) {
            for (boolean fine : KINDS) {
                refused(UNKNOWN, log(log, fine, 1));
                refused(UNKNOWN, log(log, fine, NONE));
            }
        }
    }

    @Says(in = "Promise 16", words = "OUTSIDE: n is not NONE .. 16.")
    static void logOfTooManyOrTooFewPlacesIsOutside() {
        for (boolean fine : KINDS) {
            for (int n : new int[] {-2, 17, MIN, MAX}) {
                refused(OUTSIDE, log(0, fine, n));
                refused(OUTSIDE, log(3, fine, n));
            }
            makes(1, log(0, fine, NONE), s -> s.newRow(fine, 0, NONE));
            makes(1, log(0, fine, 16), s -> s.newRow(fine, 0, 16));
        }
    }

    // ---- Promise 17: write

    @Says(in = "Promise 17", words = "A FLOAT (DOUBLE) is written to a place of that row: 1.")
    static void writeWritesToAPlace() {
        for (boolean fine : KINDS) {
            for (int i : new int[] {0, 7, 15}) {
                does(withRow(fine, 16), 1, write(3, fine, i, bits(fine, -2.5)),
                        s -> s.to(Standing.row(fine, 3, i), bits(fine, -2.5)));
            }
            does(1, write(0, fine, 0, bits(fine, -0.0)), s -> s.to(Standing.row(fine, 0, 0), bits(fine, -0.0)));
        }
    }

    @Says(in = "Promise 17", words = "UNKNOWN;")
    static void writeToNoLogIsUnknown() {
        for (int log : NO_LOGS) {
            for (boolean fine : KINDS) {
                refused(UNKNOWN, write(log, fine, 0, one(fine)));
            }
        }
    }

    @Says(in = "Promise 17", words = "OUTSIDE: it is not FIT.")
    static void writeOfWhatIsNotFitIsOutside() {
        for (boolean fine : KINDS) {
            for (long bits : unfit(fine)) {
                refused(OUTSIDE, write(0, fine, 0, bits));
            }
            for (long bits : fitEnds(fine)) {
                does(1, write(0, fine, 0, bits), s -> s.to(Standing.row(fine, 0, 0), bits));
            }
        }
    }

    @Says(in = "Promise 17", words = "FAILS: NULL,")
    static void writeToAMissingRowFailsWithNull() {
        for (boolean fine : KINDS) {
            fails(NULL, write(3, fine, 0, one(fine)));
            fails(after(log(7, fine, NONE)), NULL, write(7, fine, 0, one(fine)));
        }
        fails(NULL, write(1, false, 0, one(false)));
    }

    @Says(in = "Promise 17", words = "PLACE.")
    static void writeToNoPlaceFailsWithPlace() {
        for (boolean fine : KINDS) {
            for (int n : SIZES) {
                for (int i : noPlaces(n)) {
                    fails(withRow(fine, n), PLACE, write(3, fine, i, one(fine)));
                }
            }
        }
    }

    // ---- Promise 18: read

    @Says(in = "Promise 18", words = "What stands there comes into SEEN: 1.")
    static void readBringsWhatStandsThere() {
        does(1, read(0, false, 0), s -> s.to("seen()", bits(1.5f)));
        does(1, read(0, false, 1), s -> s.to("seen()", bits(-0.0f)));
        does(1, read(0, false, 2), s -> s.to("seen()", bits(2.5f)));
        does(1, read(0, true, 1), s -> s.to("seen()", bits(7.0)));
        does(1, read(7, false, 15), s -> s.to("seen()", bits(3.5f)));
        does(1, read(7, false, 14), s -> s.to("seen()", 0));
        does(1, read(7, true, 0), s -> s.to("seen()", bits(-0.5)));
    }

    @Says(in = "Promise 18", words = "UNKNOWN.")
    static void readOfNoLogIsUnknown() {
        for (int log : NO_LOGS) {
            for (boolean fine : KINDS) {
                refused(UNKNOWN, read(log, fine, 0));
            }
        }
    }

    @Says(in = "Promise 18", words = "FAILS: NULL,")
    static void readOfAMissingRowFailsWithNull() {
        for (boolean fine : KINDS) {
            fails(NULL, read(3, fine, 0));
            fails(after(log(7, fine, NONE)), NULL, read(7, fine, 0));
        }
        fails(NULL, read(1, false, 0));
    }

    @Says(in = "Promise 18", words = "PLACE.")
    static void readOfNoPlaceFailsWithPlace() {
        for (boolean fine : KINDS) {
            for (int n : SIZES) {
                for (int i : noPlaces(n)) {
                    fails(withRow(fine, n), PLACE, read(3, fine, i));
                }
            }
        }
    }

    // ---- Promise 19: seen

    @Says(in = "Promise 19", words = "BITS of SEEN;")
    static void seenTellsSeen() {
        tells(77, seen());
        OrreryDials x = Orrery.busy(0);
        x.cast(INT, FLOAT, -1);
        due(x, seen(), bits(-1f));
        x.read(0, true, 0);
        due(x, seen(), bits(1e300));
        x.sift(7, true, bits(1.75));
        due(x, seen(), bits(0.25));
        x.left(false, bits(-7f), bits(4f));
        due(x, seen(), bits(-3f));
        due(x, seen(), bits(-3f));
    }

    @Says(in = "Promise 19", words = "0 at first.")
    static void seenIsZeroAtFirst() {
        due(new OrreryDials(), seen(), 0);
        OrreryDials x = Orrery.dials(1);
        x.turn(0, bits(0.5f));
        x.log(0, false, 1);
        x.note(0, false, 0, 0);
        x.read(0, true, 0);
        x.sift(0, true, bits(3.0));
        due(x, seen(), 0);
    }

    // ---- Promise 20: note

    @Says(in = "Promise 20", words = "A DIAL's PLACE, CAST to the row's KIND, is written: 1.")
    static void noteWritesAPlaceInTheRowsKind() {
        for (boolean fine : KINDS) {
            does(1, note(0, fine, 0, 0), s -> s.to(Standing.row(fine, 0, 0), bits(fine, 4.5)));
            does(1, note(0, fine, 1, 1), s -> s.to(Standing.row(fine, 0, 1), bits(fine, -10.25)));
            does(withRow(fine, 16), 1, note(3, fine, 15, 0), s -> s.to(Standing.row(fine, 3, 15), bits(fine, 4.5)));
        }
        does(after(turn(1, bits(0.35))), 1, note(0, false, 0, 1),
                s -> s.to(Standing.row(false, 0, 0), bits((float) (-10.25 + 0.35))));
        // Endless as a float is written, too: it is no failure of note.
        does(1, note(0, false, 2, 3), s -> s.to(Standing.row(false, 0, 2), bits(false, INFINITE)));
        does(1, note(0, true, 1, 3), s -> s.to(Standing.row(true, 0, 1), bits(0x1.8p1023)));
        does(1, note(0, true, 1, 2), s -> s.to(Standing.row(true, 0, 1), bits(0x1.8p127)));
    }

    @Says(in = "Promise 20", words = "UNKNOWN.")
    static void noteOfNoLogOrNoDialIsUnknown() {
        for (boolean fine : KINDS) {
            for (int log : NO_LOGS) {
                refused(UNKNOWN, note(log, fine, 0, 0));
            }
            for (int dial : NO_DIALS) {
                refused(UNKNOWN, note(0, fine, 0, dial));
            }
            leavesAll(Orrery::full, UNKNOWN, note(0, fine, 0, 12));
            due(Orrery.full(0), note(0, fine, 0, 11), 1);
        }
    }

    @Says(in = "Promise 20", words = "FAILS: NULL,")
    static void noteToAMissingRowFailsWithNull() {
        for (boolean fine : KINDS) {
            fails(NULL, note(3, fine, 0, 0));
            fails(after(log(7, fine, NONE)), NULL, note(7, fine, 0, 1));
        }
        fails(NULL, note(1, false, 0, 0));
    }

    @Says(in = "Promise 20", words = "PLACE.")
    static void noteToNoPlaceFailsWithPlace() {
        for (boolean fine : KINDS) {
            for (int n : SIZES) {
                for (int i : noPlaces(n)) {
                    fails(withRow(fine, n), PLACE, note(3, fine, i, 0));
                }
            }
        }
    }

    // ---- Promise 21: recall

    @Says(in = "Promise 21", words = "What stands there, CAST to the DIAL's KIND, and what is LEFT of that by its RIM, "
            + "becomes the PLACE: 1.")
    static void recallMovesADial() {
        for (int dial = 0; dial < 2; dial++) {
            boolean fine = dial == 1;
            String place = "place(" + dial + ", 0)";
            does(1, recall(0, false, 0, dial), s -> s.to(place, bits(fine, 1.5)));
            does(1, recall(0, false, 1, dial), s -> s.to(place, bits(fine, -0.0)));
            does(1, recall(0, true, 1, dial), s -> s.to(place, bits(fine, 7)));
            does(1, recall(7, false, 15, dial), s -> s.to(place, bits(fine, 3.5)));
            // LAPS stay as they are.
            does(after(write(7, false, 0, bits(-725f))), 1, recall(7, false, 0, dial),
                    s -> s.to(place, bits(fine, -5)));
            does(after(write(7, false, 0, bits(-720f))), 1, recall(7, false, 0, dial),
                    s -> s.to(place, bits(fine, -0.0)));
        }
        // Cast first, and then what is left.
        double there = 360 * 1024 + 0.015;
        does(after(write(0, true, 1, bits(there))), 1, recall(0, true, 1, 0),
                s -> s.to("place(0, 0)", bits((float) there % 360f)));
    }

    @Says(in = "Promise 21", words = "UNKNOWN.")
    static void recallOfNoLogOrNoDialIsUnknown() {
        for (boolean fine : KINDS) {
            for (int log : NO_LOGS) {
                refused(UNKNOWN, recall(log, fine, 0, 1));
            }
            for (int dial : NO_DIALS) {
                refused(UNKNOWN, recall(0, fine, 0, dial));
            }
            leavesAll(Orrery::full, UNKNOWN, recall(0, fine, 0, 12));
            due(Orrery.full(0), recall(0, fine, 0, 11), 1);
        }
    }

    @Says(in = "Promise 21", words = "FAILS: NULL,")
    static void recallOfAMissingRowFailsWithNull() {
        for (boolean fine : KINDS) {
            fails(NULL, recall(3, fine, 0, 0));
            fails(after(log(7, fine, NONE)), NULL, recall(7, fine, 0, 1));
        }
        fails(NULL, recall(1, false, 0, 0));
    }

    @Says(in = "Promise 21", words = "PLACE,")
    static void recallOfNoPlaceFailsWithPlace() {
        for (boolean fine : KINDS) {
            for (int n : SIZES) {
                for (int i : noPlaces(n)) {
                    fails(withRow(fine, n), PLACE, recall(3, fine, i, 0));
                }
            }
        }
    }

    @Says(in = "Promise 21", words = "ENDLESS (what stands there is,")
    static void recallOfWhatIsEndlessFails() {
        // Only a note can bring what is endless into a row, and only into one of floats.
        for (int dial = 0; dial < 4; dial++) {
            fails(after(note(0, false, 0, 3)), ENDLESS, recall(0, false, 0, dial));
            fails(after(spin(3, bits(-0x1.8p1023), 2), note(0, false, 0, 3)), ENDLESS, recall(0, false, 0, dial));
        }
    }

    @Says(in = "Promise 21", words = "or that).")
    static void recallOfWhatIsEndlessWhenCastFails() {
        fails(ENDLESS, recall(0, true, 0, 0));
        does(1, recall(0, true, 0, 1), s -> s.to("place(1, 0)", bits(1e300 % 360)));
        for (double sign : new double[] {1, -1}) {
            double first = sign * 0x1.ffffffp127;
            double last = sign * 0x1.fffffefffffffp127;
            fails(after(write(0, true, 1, bits(first))), ENDLESS, recall(0, true, 1, 0));
            does(after(write(0, true, 1, bits(first))), 1, recall(0, true, 1, 1),
                    s -> s.to("place(1, 0)", bits(first % 360)));
            does(after(write(0, true, 1, bits(last))), 1, recall(0, true, 1, 0),
                    s -> s.to("place(0, 0)", bits((float) last % 360f)));
        }
    }

    // ---- Promise 22: sift

    @Says(in = "Promise 22", words = "x (of the row's KIND) becomes what is LEFT of it by each place of the row that is "
            + "not 0, from the first on: into SEEN: how many were not 0.")
    static void siftGoesThroughARow() {
        does(2, sift(0, false, bits(-10f)), s -> s.to("seen()", bits(-10f % 1.5f % 2.5f)));
        does(2, sift(0, true, bits(20.0)), s -> s.to("seen()", bits(6.0)));
        does(2, sift(7, false, bits(17f)), s -> s.to("seen()", bits(1f)));
        does(1, sift(7, true, bits(-1.0)), s -> s.to("seen()", bits(-0.0)));
        for (boolean fine : KINDS) {
            long seven = bits(fine, 7);
            does(withRow(fine, 0), 0, sift(3, fine, seven), s -> s.to("seen()", seven));
            does(withRow(fine, 16), 0, sift(3, fine, seven), s -> s.to("seen()", seven));
            // From the first on: 40 by 7 is 5, and by 20 that stays; by 20 first, nothing would be left.
            does(after(log(3, fine, 2), write(3, fine, 0, seven), write(3, fine, 1, bits(fine, 20))), 2,
                    sift(3, fine, bits(fine, 40)), s -> s.to("seen()", bits(fine, 5)));
        }
    }

    @Says(in = "Promise 22", words = "each place of the row that is not 0")
    static void siftPassesOverZerosOfBothSigns() {
        for (boolean fine : KINDS) {
            for (long zero : new long[] {bits(fine, 0.0), bits(fine, -0.0)}) {
                does(after(log(3, fine, 1), write(3, fine, 0, zero)), 0, sift(3, fine, bits(fine, -3)),
                        s -> s.to("seen()", bits(fine, -3)));
            }
            for (double sign : new double[] {1, -1}) {
                long next = bits(fine, sign * least(fine));
                does(after(log(3, fine, 1), write(3, fine, 0, next)), 1, sift(3, fine, bits(fine, -3)),
                        s -> s.to("seen()", bits(fine, -0.0)));
            }
        }
        // An endless place is not 0: it counts, and leaves x as it is.
        does(after(note(0, false, 1, 3)), 3, sift(0, false, bits(-2f)), s -> s.to("seen()", bits(-0.5f)));
    }

    @Says(in = "Promise 22", words = "UNKNOWN;")
    static void siftOfNoLogIsUnknown() {
        for (int log : NO_LOGS) {
            for (boolean fine : KINDS) {
                refused(UNKNOWN, sift(log, fine, one(fine)));
            }
        }
    }

    @Says(in = "Promise 22", words = "OUTSIDE: x is not FIT.")
    static void siftOfWhatIsNotFitIsOutside() {
        for (boolean fine : KINDS) {
            for (long x : unfit(fine)) {
                refused(OUTSIDE, sift(0, fine, x));
            }
            for (long x : fitEnds(fine)) {
                does(withRow(fine, 16), 0, sift(3, fine, x), s -> s.to("seen()", x));
            }
        }
    }

    @Says(in = "Promise 22", words = "FAILS: NULL.")
    static void siftOfAMissingRowFailsWithNull() {
        for (boolean fine : KINDS) {
            fails(NULL, sift(3, fine, one(fine)));
            fails(after(log(7, fine, NONE)), NULL, sift(7, fine, one(fine)));
        }
        fails(NULL, sift(1, false, one(false)));
        does(0, sift(1, true, one(true)), s -> s.to("seen()", one(true)));
    }
}

import java.util.LinkedHashMap;
import java.util.Map;

/**
 * All that an object tells of itself, under the names of the calls that tell it, and under "slot 2", "gear of
 * drive 1", "floats of log 0", "floats of log 0 at 3" where no one call does. Asking for these changes the
 * object: it is asked once, and of no use then. It takes fewer than 300 calls where rows are mostly short.
 */
final class Standing {
    private static final int ROW_PLACES = 16;

    private final Map<String, Long> told = new LinkedHashMap<>();

    static Standing of(OrreryDials x) {
        Standing standing = new Standing();
        standing.askWhatNoCallChanges(x);
        standing.askShaftsAndSlots(x);
        standing.askGears(x);
        standing.askRows(x);
        return standing;
    }

    static String row(boolean fine, int log) {
        return (fine ? "doubles" : "floats") + " of log " + log;
    }

    static String row(boolean fine, int log, int i) {
        return row(fine, log) + " at " + i;
    }

    long told(String what) {
        Long value = told.get(what);
        if (value == null) {
            throw new IllegalArgumentException("nothing tells " + what);
        }
        return value;
    }

    Standing to(String what, long value) {
        told(what);
        told.put(what, value);
        return this;
    }

    Standing more(String what, long by) {
        return to(what, told(what) + by);
    }

    /** A row as it is when it is new. */
    Standing newRow(boolean fine, int log, int n) {
        for (int i = 0; i < ROW_PLACES; i++) {
            to(row(fine, log, i), 0);
        }
        return to(row(fine, log), n);
    }

    void due(Due due, String call, Standing want) {
        for (Map.Entry<String, Long> one : told.entrySet()) {
            due.due(one.getKey() + " after " + call, one.getValue(), want.told(one.getKey()));
        }
    }

    private void askWhatNoCallChanges(OrreryDials x) {
        told.put("failed()", (long) x.failed());
        told.put("seen()", x.seen());
        for (int what = 0; what <= 6; what++) {
            told.put("about(" + what + ")", (long) x.about(what));
        }
        for (int dial = 0; dial < 12; dial++) {
            told.put("place(" + dial + ", 0)", x.place(dial, 0));
            told.put("place(" + dial + ", 1)", x.place(dial, 1));
            told.put("laps(" + dial + ")", x.laps(dial));
            told.put("fine(" + dial + ")", (long) x.fine(dial));
        }
        for (int drive = 0; drive < 20; drive++) {
            told.put("pulls(" + drive + ")", (long) x.pulls(drive));
        }
    }

    private void askShaftsAndSlots(OrreryDials x) {
        for (int shaft = 0; shaft < 2; shaft++) {
            for (int i = 0; i < 4; i++) {
                told.put("laid(" + shaft + ", " + i + ")", (long) x.laid(shaft, i));
            }
        }
        for (int slot = 0; slot < 6; slot++) {
            x.lay(0, 0, slot);
            told.put("slot " + slot, (long) x.laid(0, 0));
        }
    }

    private void askGears(OrreryDials x) {
        for (int drive = 0; drive < 20; drive++) {
            int gear = x.fit(0, drive) == 1 ? x.gear(0, 1) : OrreryDials.UNKNOWN;
            told.put("gear of drive " + drive, (long) gear);
        }
    }

    private void askRows(OrreryDials x) {
        for (int log = 0; log < 8; log++) {
            askRow(x, log, false);
            askRow(x, log, true);
        }
    }

    /** Of how many places it is (NONE of a missing one), and what stands there (0 behind the last). */
    private void askRow(OrreryDials x, int log, boolean fine) {
        int n = 0;
        int answer = x.read(log, fine, 0);
        while (answer == 1 && n <= ROW_PLACES) {
            told.put(row(fine, log, n), x.seen());
            n++;
            answer = x.read(log, fine, n);
        }
        told.put(row(fine, log), (long) (answer == OrreryDials.NULL ? OrreryDials.NONE : n));
        for (int i = n; i < ROW_PLACES; i++) {
            told.put(row(fine, log, i), 0L);
        }
    }
}

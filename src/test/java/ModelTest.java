/** All promises: long runs of all calls, each answer held against the model's. */
public final class ModelTest {
    private static final int RUNS = 3000;
    private static final int STEPS = 50;

    private final Due due = new Due("ModelTest");
    private final Numbers numbers = new Numbers(20261116);
    private OrreryDials x;
    private Model m;
    private boolean bigNumbers;

    public static void main(String[] args) {
        ModelTest test = new ModelTest();
        for (int run = 0; run < RUNS && !test.due.isWrong(); run++) {
            test.run(run);
        }
        test.due.end();
    }

    private void run(int run) {
        x = new OrreryDials();
        m = new Model();
        bigNumbers = numbers.coin();
        int dials = numbers.below(14);
        for (int i = 0; i < dials; i++) {
            dial();
        }
        int drives = numbers.below(8);
        for (int i = 0; i < drives; i++) {
            drive();
            fit();
        }
        // An empty place ends a winding: without full shafts hardly one would come to its last place.
        if (numbers.coin()) {
            layAll();
        }
        // Each step asks nine calls at the most: a run stays below the document's 512.
        for (int i = 0; i < STEPS; i++) {
            step();
            look();
        }
    }

    private void layAll() {
        for (int shaft = 0; shaft < 2; shaft++) {
            for (int i = 0; i < 4; i++) {
                lay(shaft, i, heldSlot());
            }
        }
    }

    private int heldSlot() {
        int slot = numbers.below(6);
        for (int tries = 0; tries < 6 && m.slotDrive[slot] == -1; tries++) {
            slot = (slot + 1) % 6;
        }
        return slot;
    }

    private void step() {
        switch (numbers.below(20)) {
            case 0: dial(); break;
            case 1: turn(); break;
            case 2: spin(); break;
            case 3: drive(); break;
            case 4: fit(); break;
            case 5: case 6: pull(); break;
            case 7: gear(); break;
            case 8: case 9: lay(); break;
            case 10: case 11: wind(); break;
            case 12: log(); break;
            case 13: case 14: write(); break;
            case 15: note(); break;
            case 16: recall(); break;
            case 17: sift(); break;
            case 18: cast(); break;
            default: left(); break;
        }
    }

    private void look() {
        int dial = dialNumber();
        due.due("place(" + dial + ", 0)", x.place(dial, 0), m.place(dial, 0));
        due.due("laps(" + dial + ")", x.laps(dial), m.laps(dial));
        due.due("seen()", x.seen(), m.seen);
        due.due("failed()", x.failed(), m.failed);
        switch (numbers.below(5)) {
            case 0: {
                int shaft = numbers.below(4) - 1;
                int i = numbers.below(6) - 1;
                due.due("laid(" + shaft + ", " + i + ")", x.laid(shaft, i), m.laid(shaft, i));
                break;
            }
            case 1: {
                int what = numbers.below(4) - 1;
                due.due("place(" + dial + ", " + what + ")", x.place(dial, what), m.place(dial, what));
                due.due("fine(" + dial + ")", x.fine(dial), m.fine(dial));
                break;
            }
            case 2: {
                int drive = driveNumber();
                due.due("pulls(" + drive + ")", x.pulls(drive), m.pulls(drive));
                break;
            }
            case 3: {
                int what = numbers.below(9) - 1;
                due.due("about(" + what + ")", x.about(what), m.about(what));
                break;
            }
            default: {
                int log = logNumber();
                boolean fine = numbers.coin();
                int i = numbers.below(5) - 1;
                due.due("read(" + log + ", " + fine + ", " + i + ")", x.read(log, fine, i), m.read(log, fine, i));
                due.due("seen()", x.seen(), m.seen);
                break;
            }
        }
    }

    private int dialNumber() {
        return numbers.below(20) == 0 ? numbers.below(16) - 2 : numbers.below(Math.max(1, m.dialCount));
    }

    private int driveNumber() {
        return numbers.below(8) == 0 ? numbers.below(24) - 2 : numbers.below(Math.max(1, m.driveCount));
    }

    private int slotNumber() {
        return numbers.below(20) == 0 ? numbers.below(8) - 1 : numbers.below(6);
    }

    private int logNumber() {
        return numbers.below(20) == 0 ? numbers.below(10) - 1 : numbers.below(3);
    }

    /** Half of the runs are of numbers that often come to an end, the others of tame ones. */
    private long real(boolean fine) {
        if (bigNumbers || numbers.below(10) == 0) {
            return numbers.real(fine);
        }
        double tame = (double) numbers.bits() / (1L << (40 + numbers.below(20)));
        return Due.bits(fine, tame);
    }

    private void dial() {
        boolean fine = numbers.coin();
        long rim = real(fine);
        due.due("dial(" + fine + ", " + rim + ")", x.dial(fine, rim), m.dial(fine, rim));
    }

    private void turn() {
        int dial = dialNumber();
        long a = real(m.fine(dial) == 1);
        due.due("turn(" + dial + ", " + a + ")", x.turn(dial, a), m.turn(dial, a));
    }

    private void spin() {
        int dial = dialNumber();
        long a = real(m.fine(dial) == 1);
        int n = numbers.below(44) - 2;
        due.due("spin(" + dial + ", " + a + ", " + n + ")", x.spin(dial, a, n), m.spin(dial, a, n));
    }

    private void drive() {
        int sort = numbers.below(20) == 0 ? numbers.below(5) - 1 : numbers.below(3);
        long pull = real(true);
        due.due("drive(" + sort + ", " + pull + ")", x.drive(sort, pull), m.drive(sort, pull));
    }

    private void fit() {
        int slot = slotNumber();
        int drive = driveNumber();
        due.due("fit(" + slot + ", " + drive + ")", x.fit(slot, drive), m.fit(slot, drive));
    }

    private void pull() {
        int slot = slotNumber();
        int dial = dialNumber();
        due.due("pull(" + slot + ", " + dial + ")", x.pull(slot, dial), m.pull(slot, dial));
    }

    private void gear() {
        int slot = slotNumber();
        int g = numbers.below(2010) - 1005;
        due.due("gear(" + slot + ", " + g + ")", x.gear(slot, g), m.gear(slot, g));
    }

    private void lay() {
        int shaft = numbers.below(20) == 0 ? numbers.below(4) - 1 : numbers.below(2);
        int i = numbers.below(10) == 0 ? numbers.below(6) - 1 : numbers.below(4);
        lay(shaft, i, slotNumber());
    }

    private void lay(int shaft, int i, int slot) {
        String call = "lay(" + shaft + ", " + i + ", " + slot + ")";
        due.due(call, x.lay(shaft, i, slot), m.lay(shaft, i, slot));
    }

    private void wind() {
        int shaft = numbers.below(20) == 0 ? numbers.below(4) - 1 : numbers.below(2);
        int dial = dialNumber();
        due.due("wind(" + shaft + ", " + dial + ")", x.wind(shaft, dial), m.wind(shaft, dial));
    }

    private void log() {
        int log = logNumber();
        boolean fine = numbers.coin();
        int n = numbers.below(20) - 2;
        due.due("log(" + log + ", " + fine + ", " + n + ")", x.log(log, fine, n), m.log(log, fine, n));
    }

    private void write() {
        int log = logNumber();
        boolean fine = numbers.coin();
        int i = numbers.below(6) - 1;
        long bits = real(fine);
        String call = "write(" + log + ", " + fine + ", " + i + ", " + bits + ")";
        due.due(call, x.write(log, fine, i, bits), m.write(log, fine, i, bits));
    }

    private void note() {
        int log = logNumber();
        boolean fine = numbers.coin();
        int i = numbers.below(6) - 1;
        int dial = dialNumber();
        String call = "note(" + log + ", " + fine + ", " + i + ", " + dial + ")";
        due.due(call, x.note(log, fine, i, dial), m.note(log, fine, i, dial));
    }

    private void recall() {
        int log = logNumber();
        boolean fine = numbers.coin();
        int i = numbers.below(6) - 1;
        int dial = dialNumber();
        String call = "recall(" + log + ", " + fine + ", " + i + ", " + dial + ")";
        due.due(call, x.recall(log, fine, i, dial), m.recall(log, fine, i, dial));
    }

    private void sift() {
        int log = logNumber();
        boolean fine = numbers.coin();
        long bits = real(fine);
        String call = "sift(" + log + ", " + fine + ", " + bits + ")";
        due.due(call, x.sift(log, fine, bits), m.sift(log, fine, bits));
    }

    private void cast() {
        int from = numbers.below(6) - 1;
        int to = numbers.below(6) - 1;
        long bits = from == 2 || from == 3 ? numbers.real(from == 3) : numbers.whole();
        due.due("cast(" + from + ", " + to + ", " + bits + ")", x.cast(from, to, bits), m.cast(from, to, bits));
    }

    private void left() {
        boolean fine = numbers.coin();
        long over = real(fine);
        long by = real(fine);
        due.due("left(" + fine + ", " + over + ", " + by + ")", x.left(fine, over, by), m.left(fine, over, by));
    }
}

/** Every call of the face as a Call; tests that name many of them are heirs of this. */
abstract class Calls {
    static Call dial(boolean fine, long rim) {
        return new Call("dial(" + fine + ", " + rim + ")", x -> x.dial(fine, rim));
    }

    static Call turn(int dial, long a) {
        return new Call("turn(" + dial + ", " + a + ")", x -> x.turn(dial, a));
    }

    static Call spin(int dial, long a, int n) {
        return new Call("spin(" + dial + ", " + a + ", " + n + ")", x -> x.spin(dial, a, n));
    }

    static Call place(int dial, int what) {
        return new Call("place(" + dial + ", " + what + ")", x -> x.place(dial, what));
    }

    static Call laps(int dial) {
        return new Call("laps(" + dial + ")", x -> x.laps(dial));
    }

    static Call fine(int dial) {
        return new Call("fine(" + dial + ")", x -> x.fine(dial));
    }

    static Call drive(int sort, long pull) {
        return new Call("drive(" + sort + ", " + pull + ")", x -> x.drive(sort, pull));
    }

    static Call fit(int slot, int drive) {
        return new Call("fit(" + slot + ", " + drive + ")", x -> x.fit(slot, drive));
    }

    static Call pull(int slot, int dial) {
        return new Call("pull(" + slot + ", " + dial + ")", x -> x.pull(slot, dial));
    }

    static Call gear(int slot, int g) {
        return new Call("gear(" + slot + ", " + g + ")", x -> x.gear(slot, g));
    }

    static Call lay(int shaft, int i, int slot) {
        return new Call("lay(" + shaft + ", " + i + ", " + slot + ")", x -> x.lay(shaft, i, slot));
    }

    static Call wind(int shaft, int dial) {
        return new Call("wind(" + shaft + ", " + dial + ")", x -> x.wind(shaft, dial));
    }

    static Call laid(int shaft, int i) {
        return new Call("laid(" + shaft + ", " + i + ")", x -> x.laid(shaft, i));
    }

    static Call pulls(int drive) {
        return new Call("pulls(" + drive + ")", x -> x.pulls(drive));
    }

    static Call log(int log, boolean fine, int n) {
        return new Call("log(" + log + ", " + fine + ", " + n + ")", x -> x.log(log, fine, n));
    }

    static Call write(int log, boolean fine, int i, long bits) {
        String text = "write(" + log + ", " + fine + ", " + i + ", " + bits + ")";
        return new Call(text, x -> x.write(log, fine, i, bits));
    }

    static Call read(int log, boolean fine, int i) {
        return new Call("read(" + log + ", " + fine + ", " + i + ")", x -> x.read(log, fine, i));
    }

    static Call seen() {
        return new Call("seen()", x -> x.seen());
    }

    static Call note(int log, boolean fine, int i, int dial) {
        String text = "note(" + log + ", " + fine + ", " + i + ", " + dial + ")";
        return new Call(text, x -> x.note(log, fine, i, dial));
    }

    static Call recall(int log, boolean fine, int i, int dial) {
        String text = "recall(" + log + ", " + fine + ", " + i + ", " + dial + ")";
        return new Call(text, x -> x.recall(log, fine, i, dial));
    }

    static Call sift(int log, boolean fine, long x) {
        return new Call("sift(" + log + ", " + fine + ", " + x + ")", o -> o.sift(log, fine, x));
    }

    static Call cast(int from, int to, long bits) {
        return new Call("cast(" + from + ", " + to + ", " + bits + ")", x -> x.cast(from, to, bits));
    }

    static Call left(boolean fine, long x, long y) {
        return new Call("left(" + fine + ", " + x + ", " + y + ")", o -> o.left(fine, x, y));
    }

    static Call failed() {
        return new Call("failed()", x -> x.failed());
    }

    static Call about(int what) {
        return new Call("about(" + what + ")", x -> x.about(what));
    }
}

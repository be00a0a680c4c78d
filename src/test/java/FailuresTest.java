/** Promises 25 and 26: failed and about, over all calls that can fail. */
public final class FailuresTest {
    private static final Due DUE = new Due("FailuresTest");

    public static void main(String[] args) {
        aboutAtFirst();
        callsThatCanNotFail();
        callsThatCanFail();
        refusalsLeaveWhatFailed();
        counts();
        DUE.end();
    }

    /** One dial whose next turn by the most is endless, a spring in slot 0, a crank in slot 1, log 0 of one place. */
    private static OrreryDials ready() {
        OrreryDials x = new OrreryDials();
        x.dial(true, Due.bits(Double.MAX_VALUE));
        x.turn(0, Due.bits(0x1p1023));
        x.drive(0, Due.bits(1.0));
        x.drive(1, Due.bits(1.0));
        x.fit(0, 0);
        x.fit(1, 1);
        x.log(0, true, 1);
        return x;
    }

    private static void failsWith(OrreryDials x, String call, long got, int failure) {
        DUE.due(call, got, failure);
        DUE.due("failed() after " + call, x.failed(), failure);
        DUE.due("failed() again after " + call, x.failed(), failure);
    }

    /** After a failure, so that what tells of it must go back to 0. */
    private static void goesWell(OrreryDials x, String call, long got, long want) {
        DUE.due(call, got, want);
        DUE.due("failed() after " + call, x.failed(), 0);
        x.laid(0, 4);
    }

    private static void aboutAtFirst() {
        OrreryDials x = new OrreryDials();
        DUE.due("failed() at first", x.failed(), 0);
        for (int what = 0; what <= 6; what++) {
            DUE.due("about(" + what + ")", x.about(what), 0);
        }
        DUE.due("about(7)", x.about(7), OrreryDials.OUTSIDE);
        DUE.due("about(-1)", x.about(-1), OrreryDials.OUTSIDE);
        DUE.due("about(max)", x.about(Integer.MAX_VALUE), OrreryDials.OUTSIDE);
        DUE.due("about(min)", x.about(Integer.MIN_VALUE), OrreryDials.OUTSIDE);
    }

    private static void callsThatCanNotFail() {
        OrreryDials x = ready();
        failsWith(x, "lay(1, 0, 0)", x.lay(1, 0, 0), OrreryDials.STORE);
        x.dial(false, Due.bits(1f));
        x.place(0, 0);
        x.laps(0);
        x.fine(0);
        x.drive(2, 0);
        x.fit(2, 2);
        x.pulls(0);
        x.log(1, false, 1);
        x.seen();
        x.cast(0, 1, 0);
        x.left(true, 0, Due.bits(1.0));
        x.about(2);
        x.about(9);
        DUE.due("failed()", x.failed(), OrreryDials.STORE);
    }

    private static void callsThatCanFail() {
        OrreryDials x = ready();
        long most = Due.bits(Double.MAX_VALUE);
        failsWith(x, "turn", x.turn(0, most), OrreryDials.ENDLESS);
        goesWell(x, "turn", x.turn(0, 0), 1);
        DUE.due("spin", x.spin(0, most, 3), 0);
        DUE.due("failed() after spin", x.failed(), OrreryDials.ENDLESS);
        goesWell(x, "spin", x.spin(0, 0, 3), 3);
        failsWith(x, "pull of none", x.pull(5, 0), OrreryDials.NULL);
        goesWell(x, "pull", x.pull(1, 0), 1);
        failsWith(x, "gear of none", x.gear(5, 1), OrreryDials.NULL);
        failsWith(x, "gear of a spring", x.gear(0, 1), OrreryDials.CAST);
        goesWell(x, "gear", x.gear(1, 3), 1);
        failsWith(x, "lay to no place", x.lay(0, 4, 0), OrreryDials.PLACE);
        failsWith(x, "lay a spring", x.lay(1, 0, 0), OrreryDials.STORE);
        goesWell(x, "lay", x.lay(1, 0, 1), 1);
        DUE.due("wind", x.wind(1, 0), 1);
        DUE.due("failed() after wind", x.failed(), OrreryDials.NULL);
        for (int i = 1; i < 4; i++) {
            x.lay(1, i, 1);
        }
        x.turn(0, most);
        goesWell(x, "wind", x.wind(1, 0), 4);
        failsWith(x, "laid", x.laid(0, 4), OrreryDials.PLACE);
        goesWell(x, "laid", x.laid(1, 0), 1);
        failsWith(x, "write", x.write(1, true, 0, 0), OrreryDials.NULL);
        failsWith(x, "write", x.write(0, true, 1, 0), OrreryDials.PLACE);
        goesWell(x, "write", x.write(0, true, 0, 0), 1);
        failsWith(x, "read", x.read(1, true, 0), OrreryDials.NULL);
        failsWith(x, "read", x.read(0, true, 1), OrreryDials.PLACE);
        goesWell(x, "read", x.read(0, true, 0), 1);
        failsWith(x, "note", x.note(1, true, 0, 0), OrreryDials.NULL);
        failsWith(x, "note", x.note(0, true, 1, 0), OrreryDials.PLACE);
        goesWell(x, "note", x.note(0, true, 0, 0), 1);
        failsWith(x, "recall", x.recall(1, true, 0, 0), OrreryDials.NULL);
        failsWith(x, "recall", x.recall(0, true, 1, 0), OrreryDials.PLACE);
        goesWell(x, "recall", x.recall(0, true, 0, 0), 1);
        failsWith(x, "sift", x.sift(1, true, 0), OrreryDials.NULL);
        goesWell(x, "sift", x.sift(0, true, 0), 1);
    }

    private static void refusalsLeaveWhatFailed() {
        OrreryDials x = ready();
        x.gear(0, 1);
        x.turn(7, 0);
        x.turn(0, -1);
        x.spin(0, 0, 41);
        x.pull(6, 0);
        x.gear(1, 1001);
        x.lay(2, 0, 0);
        x.wind(2, 0);
        x.laid(2, 0);
        x.write(8, true, 0, 0);
        x.write(0, true, 0, -1);
        x.read(8, true, 0);
        x.note(0, true, 0, 9);
        x.recall(0, true, 0, 9);
        x.sift(0, true, -1);
        DUE.due("failed()", x.failed(), OrreryDials.CAST);
        int sum = 0;
        for (int what = 2; what <= 6; what++) {
            sum += x.about(what);
        }
        DUE.due("failures in all", sum, 1);
    }

    private static void counts() {
        OrreryDials x = ready();
        for (int i = 0; i < 5; i++) {
            x.pull(5, 0);
        }
        for (int i = 0; i < 4; i++) {
            x.laid(0, -1);
        }
        for (int i = 0; i < 3; i++) {
            x.gear(0, 0);
        }
        for (int i = 0; i < 2; i++) {
            x.lay(1, 0, 0);
        }
        x.spin(0, Due.bits(0x1p1023), 40);
        DUE.due("about(0)", x.about(0), 1);
        DUE.due("about(1)", x.about(1), 2);
        DUE.due("about(2)", x.about(2), 5);
        DUE.due("about(3)", x.about(3), 4);
        DUE.due("about(4)", x.about(4), 3);
        DUE.due("about(5)", x.about(5), 2);
        DUE.due("about(6)", x.about(6), 1);
        x.turn(0, 0);
        DUE.due("about(6)", x.about(6), 1);
    }
}

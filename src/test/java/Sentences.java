import java.io.IOException;
import java.lang.reflect.Method;
import java.nio.file.Path;
import java.util.Arrays;
import java.util.Comparator;
import java.util.function.IntFunction;
import java.util.function.UnaryOperator;

/**
 * Tests that are each named after words of the document.
 *
 * <p>Most of them hold an object after a call against its twin, made alike, without that call: all that it tells
 * must be as it was, but for what the call is to change. They do so with every failure that may be the latest.
 */
abstract class Sentences extends Calls {
    static final int NONE = OrreryDials.NONE, NULL = OrreryDials.NULL, PLACE = OrreryDials.PLACE,
            CAST = OrreryDials.CAST, STORE = OrreryDials.STORE, ENDLESS = OrreryDials.ENDLESS,
            UNKNOWN = OrreryDials.UNKNOWN, OUTSIDE = OrreryDials.OUTSIDE, FULL = OrreryDials.FULL;
    static final int MIN = Integer.MIN_VALUE, MAX = Integer.MAX_VALUE;
    static final int SPRING = 0, CRANK = 1, FLYWHEEL = 2;
    static final int INT = 0, LONG = 1, FLOAT = 2, DOUBLE = 3;
    static final boolean[] KINDS = {false, true};
    static final double INFINITE = Double.POSITIVE_INFINITY;

    /** Numbers next to those that name something, of an object as Orrery makes it. */
    static final int[] NO_DIALS = {-1, 4, 11, 12, MIN, MAX};
    static final int[] NO_DRIVES = {-1, 4, 19, 20, MIN, MAX};
    static final int[] NO_SLOTS = {-1, 6, MIN, MAX};
    static final int[] NO_SHAFTS = {-1, 2, MIN, MAX};
    static final int[] NO_SHAFT_PLACES = {-1, 4, -4, 8, MIN, MAX};
    static final int[] NO_LOGS = {-1, 8, MIN, MAX};

    private static final int[] LATEST = {0, NULL, PLACE, CAST, STORE, ENDLESS};

    private static Due due;

    /** Runs all tests of a class; with a document, every word under these headings needs one. */
    static void run(Class<?> tests, String[] args, String... headings) throws IOException {
        due = new Due(tests.getSimpleName());
        Document document = args.length > 1 ? new Document(Path.of(args[1])) : null;
        Method[] methods = tests.getDeclaredMethods();
        Arrays.sort(methods, Comparator.comparing(Method::getName));
        for (Method method : methods) {
            Says says = method.getAnnotation(Says.class);
            if (says != null) {
                runOne(method, says, document);
            }
        }
        due.test("the document");
        for (String heading : headings) {
            String words = document == null ? "" : document.unquoted(heading);
            due.due(heading + ", a test of '" + words + "'", words.isEmpty());
        }
        due.end();
    }

    private static void runOne(Method method, Says says, Document document) {
        due.test(method.getName() + " (" + says.in() + ", '" + says.words() + "')");
        int before = due.asked();
        try {
            method.invoke(null);
        } catch (ReflectiveOperationException e) {
            due.due("what was thrown: " + e.getCause(), false);
        }
        due.due("something is asked", due.asked() > before);
        if (document != null) {
            due.due("these words stand in the document", document.quote(says.in(), says.words()));
        }
    }

    static void due(String what, long got, long want) {
        due.due(what, got, want);
    }

    static void due(OrreryDials x, Call call, long want) {
        due.due(call.text(), call.on(x), want);
    }

    static long bits(boolean fine, double x) {
        return Due.bits(fine, x);
    }

    static long bits(double x) {
        return Due.bits(x);
    }

    static long bits(float x) {
        return Due.bits(x);
    }

    static double most(boolean fine) {
        return fine ? Double.MAX_VALUE : Float.MAX_VALUE;
    }

    static double least(boolean fine) {
        return fine ? Double.MIN_VALUE : Float.MIN_VALUE;
    }

    /** The next one of that kind toward 0. */
    static double inward(boolean fine, double x) {
        return fine ? Math.nextAfter(x, 0.0) : Math.nextAfter((float) x, 0.0);
    }

    /** Those that are FIT and next to one that is not, or 0, or next to 0. */
    static long[] fitEnds(boolean fine) {
        return new long[] {
            bits(fine, 0.0), bits(fine, -0.0), bits(fine, least(fine)), bits(fine, -least(fine)),
            bits(fine, most(fine)), bits(fine, -most(fine)),
        };
    }

    /** Endless ones of both signs, and no numbers: next to these, quiet, of all bits. */
    static long[] unfit(boolean fine) {
        if (fine) {
            return new long[] {
                0x7ff0000000000000L, 0xfff0000000000000L, 0x7ff0000000000001L, 0xfff0000000000001L,
                0x7ff8000000000000L, Long.MAX_VALUE, -1L,
            };
        }
        return new long[] {
            0x7f800000L, 0xff800000L, 0xffffffffff800000L, 0x7f800001L, 0xff800001L, 0x7fc00000L,
            0x7fffffffL, -1L, 0x3ff000007f800000L, 0x12345678ff800000L,
        };
    }

    /** Busy objects on which these calls were made. */
    static IntFunction<OrreryDials> after(Call... calls) {
        return latest -> {
            OrreryDials x = Orrery.busy(latest);
            for (Call call : calls) {
                call.on(x);
            }
            return x;
        };
    }

    private static void holds(IntFunction<OrreryDials> making, Call call, long answer, UnaryOperator<Standing> change) {
        for (int latest : LATEST) {
            OrreryDials x = making.apply(latest);
            due(x, call, answer);
            Standing want = change.apply(Standing.of(making.apply(latest)));
            Standing.of(x).due(due, call.text(), want);
        }
    }

    /** All is as it was: a refusal, or the answer of a call that only tells something and can not fail. */
    static void leavesAll(IntFunction<OrreryDials> making, long answer, Call call) {
        holds(making, call, answer, s -> s);
    }

    static void refused(int refusal, Call call) {
        leavesAll(Orrery::busy, refusal, call);
    }

    static void tells(long answer, Call call) {
        leavesAll(Orrery::busy, answer, call);
    }

    /** A call that can not fail: what tells of failures is as it was. */
    static void makes(long answer, Call call, UnaryOperator<Standing> change) {
        holds(Orrery::busy, call, answer, change);
    }

    /** A call that could fail and did not. */
    static void does(IntFunction<OrreryDials> making, long answer, Call call, UnaryOperator<Standing> change) {
        holds(making, call, answer, s -> change.apply(s.to("failed()", 0)));
    }

    static void does(long answer, Call call, UnaryOperator<Standing> change) {
        does(Orrery::busy, answer, call, change);
    }

    /** A call that a failure ended, with that answer. */
    static void ends(IntFunction<OrreryDials> making, long answer, int failure, Call call,
            UnaryOperator<Standing> change) {
        String count = "about(" + (2 + NULL - failure) + ")";
        holds(making, call, answer, s -> change.apply(s.to("failed()", failure).more(count, 1)));
    }

    static void ends(long answer, int failure, Call call, UnaryOperator<Standing> change) {
        ends(Orrery::busy, answer, failure, call, change);
    }

    static void fails(IntFunction<OrreryDials> making, int failure, Call call) {
        ends(making, failure, failure, call, s -> s);
    }

    static void fails(int failure, Call call) {
        fails(Orrery::busy, failure, call);
    }
}

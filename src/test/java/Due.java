/** Prints every answer that is not the one that is due, and ends the test with 1 if there was one. */
final class Due {
    /** Of one test. */
    private static final int MOST_PRINTED = 20;

    private final String name;
    private String test;
    private int asked = 0;
    private int wrong = 0;
    private int printed = 0;

    Due(String name) {
        this.name = name;
        this.test = name;
    }

    /** What is asked from now on belongs to that test. */
    void test(String words) {
        test = name + ", " + words;
        printed = 0;
    }

    int asked() {
        return asked;
    }

    void due(String call, long got, long want) {
        asked++;
        if (got != want) {
            wrong++;
            printed++;
            if (printed <= MOST_PRINTED) {
                System.out.println(test + ": " + call + " answered " + got + ", due is " + want);
            }
        }
    }

    void due(String call, boolean got) {
        due(call, got ? 1 : 0, 1);
    }

    boolean isWrong() {
        return wrong != 0;
    }

    void end() {
        System.out.println(name + ": " + asked + " answers, " + wrong + " not as due");
        if (wrong != 0 || asked == 0) {
            System.exit(1);
        }
    }

    static long bits(double x) {
        return Double.doubleToRawLongBits(x);
    }

    static long bits(float x) {
        return Float.floatToRawIntBits(x);
    }

    /** Of a value in the kind that is told. */
    static long bits(boolean fine, double x) {
        return fine ? bits(x) : bits((float) x);
    }
}

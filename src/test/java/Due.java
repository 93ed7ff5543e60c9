/** Counts answers that are not the ones due, and ends a test with exit code 1 if there was one. */
final class Due {
    private static int wrong = 0;
    private static int asked = 0;

    private Due() {
    }

    static void is(String call, long got, long want) {
        asked++;
        if (got != want) {
            wrong++;
            System.out.println(call + " answered " + got + ", due is " + want);
        }
    }

    static void isTrue(String what, boolean so) {
        is(what, so ? 1 : 0, 1);
    }

    /** Several answers, all of which are to be the same. */
    static void each(String calls, long want, long... got) {
        for (int k = 0; k < got.length; k++) {
            is(calls + ", " + k, got[k], want);
        }
    }

    /** A refusal where a long is answered. */
    static void refused(String call, long got, int code) {
        is(call, got, LeastInBounds.NO + code);
    }

    static boolean allRight() {
        return wrong == 0;
    }

    static int asked() {
        return asked;
    }

    static int wrong() {
        return wrong;
    }

    static void end() {
        System.out.println(asked + " answers looked at, " + wrong + " not as due");
        if (wrong != 0) {
            System.exit(1);
        }
    }
}

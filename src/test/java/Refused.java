import java.util.function.Supplier;

/** Calls that are to be refused: each is asked of an object of its own, and must change nothing there. */
final class Refused {
    interface Call {
        long asked(LeastInBounds x);
    }

    private Refused() {
    }

    static void ints(int code, Supplier<LeastInBounds> made, Call... calls) {
        ask(code, made, calls);
    }

    /** Where a long is answered. */
    static void longs(int code, Supplier<LeastInBounds> made, Call... calls) {
        ask(LeastInBounds.NO + code, made, calls);
    }

    private static void ask(long due, Supplier<LeastInBounds> made, Call[] calls) {
        String untouched = Shown.of(made.get());
        for (int k = 0; k < calls.length; k++) {
            LeastInBounds x = made.get();
            Due.is("refused call " + k, calls[k].asked(x), due);
            Due.isTrue("refused call " + k + " changes nothing", Shown.of(x).equals(untouched));
        }
    }
}

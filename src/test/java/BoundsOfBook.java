/** Boundary cases of promises 28 to 32: the book. */
final class BoundsOfBook extends Samples {
    private BoundsOfBook() {
    }

    static void tell(Sentences told) {
        told.under("Promise 28: solve");
        told.has("What working() of all LINES answers, NOTED.", BoundsOfBook::solveOfAll);
        told.has("STATE.", BoundsOfBook::stateOfSolve);
        told.under("Promise 29: notes");
        told.has("NOTES.", BoundsOfBook::notesFromNoneOn);
        told.under("Promise 30: mark");
        told.has("MARK.", BoundsOfBook::markFromNoneOn);
        told.under("Promise 31: trail");
        told.has("What was answered in the last but k (k 0 .. 7).", BoundsOfBook::firstToLastOfTrail);
        told.has("PLACE: there are no such, or so many aren't NOTED.", BoundsOfBook::noSuchInTrail);
        told.under("Promise 32: least");
        told.has("BAD", BoundsOfBook::badLeast);
        told.has("NONE: there is none.", BoundsOfBook::noLeast);
    }

    private static void solveOfAll() {
        LeastInBounds x = new LeastInBounds();
        Due.is("of no lines", x.solve(), 0);
        Due.is("noted", x.notes(), 1);
        for (int l = 0; l < 6; l++) {
            addLine(x, OVER, l + 1, 0, 1);
            Due.is("of lines up to " + l, x.solve(), 1 << l);
            Due.is("noted", x.trail(0), 1 << l);
        }
        x.change(0, 0, UNDER);
        Due.is("none", x.solve(), NONE);
        Due.is("none is noted", x.notes(), 8);
        Due.is("none is in the trail", x.trail(0), NONE);
        Due.is("working isn't noted", x.working(62) + x.notes(), 32 + 8);
    }

    private static void stateOfSolve() {
        Refused.ints(STATE, Samples::furnishedImproper, x -> x.solve());
        Refused.ints(STATE, () -> bentTooFar(furnishedEmpty()), x -> x.solve());
        Refused.ints(STATE, Samples::improper, x -> x.solve());
    }

    private static void notesFromNoneOn() {
        LeastInBounds x = two();
        for (int k = 0; k < 200; k++) {
            Due.is("so far", x.notes(), k);
            x.solve();
        }
        x.size(3);
        Due.is("a new size leaves them", x.notes(), 200);
    }

    private static void markFromNoneOn() {
        LeastInBounds x = new LeastInBounds();
        Due.is("at first", x.mark(), 0);
        x.solve();
        Due.is("0 and 0", x.mark(), 0);
        x.line(ON, 1, 0);
        x.solve();
        Due.is("NONE", x.mark(), -1);
        x.solve();
        Due.is("NONE twice", x.mark(), -32);
        x.drop(0);
        addLine(x, ON, 1, 0, 1);
        x.solve();
        Due.is("1", x.mark(), -32 * 31 + 1);
        LeastInBounds y = two();
        long due = 0;
        for (int k = 0; k < 13; k++) {
            y.solve();
            due = due * 31 + 3;
        }
        // 3 * (31 ^ 13 - 1) / 30 is about 2.4e18 and still a long, the next isn't.
        Due.isTrue("still above 0", due > 0 && due > Long.MAX_VALUE / 31);
        Due.is("before it wraps around", y.mark(), due);
        y.solve();
        Due.is("wrapped around", y.mark(), due * 31 + 3);
    }

    private static void firstToLastOfTrail() {
        LeastInBounds x = new LeastInBounds();
        for (int l = 0; l < 6; l++) {
            x.solve();
            addLine(x, OVER, l + 1, 0, 1);
        }
        x.solve();
        x.change(5, 0, ON);
        x.change(0, 1, 99);
        x.solve();
        // 0, 1, 2, 4, 8, 16, 32, NONE
        Due.is("the last", x.trail(0), NONE);
        for (int k = 1; k < 7; k++) {
            Due.is("the last but " + k, x.trail(k), 64 >> k);
        }
        Due.is("the last but 7", x.trail(7), 0);
        x.solve();
        Due.is("one further, the last", x.trail(0), NONE);
        Due.is("one further, the last but 7", x.trail(7), 1);
    }

    private static void noSuchInTrail() {
        Refused.ints(PLACE, LeastInBounds::new, x -> x.trail(0), x -> x.trail(7), x -> x.trail(-1), x -> x.trail(8));
        for (int noted = 0; noted <= 10; noted++) {
            LeastInBounds x = two();
            for (int k = 0; k < noted; k++) {
                x.solve();
            }
            for (int k = 0; k <= 11; k++) {
                Due.is("the last but " + k + " of " + noted, x.trail(k), k < noted && k < 8 ? 3 : PLACE);
            }
            Due.each("no such", PLACE, x.trail(-1), x.trail(64), x.trail(LEAST_INT), x.trail(MOST_INT));
        }
    }

    private static void badLeast() {
        Refused.longs(BAD, Samples::furnishedTwo, x -> x.least(2), x -> x.least(-1), x -> x.least(LEAST_INT), x -> x.least(MOST_INT));
        Refused.longs(BAD, LeastInBounds::new, x -> x.least(2), x -> x.least(-1));
        LeastInBounds x = two();
        x.solve();
        fraction("both parts", x.least(0), x.least(1), -21, 2);
    }

    private static void noLeast() {
        Refused.longs(NONE, LeastInBounds::new, x -> x.least(0), x -> x.least(1));
        Refused.longs(NONE, BoundsOfBook::solvedInVain, x -> x.least(0), x -> x.least(1));
        LeastInBounds x = solvedInVain();
        x.drop(0);
        x.solve();
        fraction("then there is one", x.least(0), x.least(1), 2, 1);
    }

    private static LeastInBounds solvedInVain() {
        LeastInBounds x = empty();
        x.solve();
        return x;
    }
}

/** Boundary cases of promises 20 to 25: the walk, the tide, the nearest. */
final class BoundsOfWalk extends Samples {
    private BoundsOfWalk() {
    }

    static void tell(Sentences told) {
        told.under("Promise 20: steps");
        told.has("How many sets behind the first WALK has.", BoundsOfWalk::stepsBehindTheFirst);
        told.has("STATE", BoundsOfWalk::stateOfSteps);
        told.has("NONE: it ends without ANSWER.", BoundsOfWalk::noSteps);
        told.under("Promise 21: walk");
        told.has("STATE", BoundsOfWalk::stateOfWalk);
        told.has("PLACE: there is none such.", BoundsOfWalk::noSuchSet);
        told.under("Promise 22: pieces");
        told.has("For how many T from 1 to to (1 .. 40) what working() of all LINES would answer is another number than for T less by 1.",
            BoundsOfWalk::piecesAtEnds);
        told.has("BAD", BoundsOfWalk::badPieces);
        told.has("STATE.", BoundsOfWalk::stateOfPieces);
        told.under("Promise 23: reach");
        told.has("BAD", BoundsOfWalk::badReach);
        told.has("STATE", BoundsOfWalk::stateOfReach);
        told.has("NONE: there is no ANSWER of all LINES, or it could be more without end.", BoundsOfWalk::noReach);
        told.under("Promise 24: nearest");
        told.has("(p, q, r: -99 .. 99; those of no VARIABLE do nothing)", BoundsOfWalk::placesOfNearest);
        told.has("BAD", BoundsOfWalk::badNearest);
        told.has("NONE.", BoundsOfWalk::noNearest);
        told.under("Promise 25: distance");
        told.has("The square of how far that is from P (the sum of squares of the differences).", BoundsOfWalk::distanceOfNone);
        told.has("BAD", BoundsOfWalk::badDistance);
        told.has("NONE.", BoundsOfWalk::noDistance);
    }

    private static void stepsBehindTheFirst() {
        Due.is("no lines", new LeastInBounds().steps(), 0);
        LeastInBounds x = stairs();
        Due.is("stairs", x.steps(), 4);
        x.push(0, -3);
        Due.is("up to the third", x.steps(), 1);
        x.push(1, -1);
        Due.is("all held", x.steps(), 0);
        x.push(0, -2);
        Due.is("the third alone isn't", x.steps(), 1);
    }

    private static void stateOfSteps() {
        Refused.ints(STATE, Samples::furnishedImproper, x -> x.steps());
        Refused.ints(STATE, () -> bentTooFar(furnishedEmpty()), x -> x.steps());
        Due.is("PROPER", furnishedTwo().steps(), 2);
    }

    private static void noSteps() {
        Refused.ints(NONE, Samples::furnishedEmpty, x -> x.steps());
        LeastInBounds x = empty();
        x.change(0, 1, 2);
        Due.is("one place is left", x.steps(), 1);
        x.drop(0);
        Due.is("no line against it", x.steps(), 1);
    }

    private static void stateOfWalk() {
        Refused.ints(STATE, Samples::furnishedImproper, x -> x.walk(0), x -> x.walk(1), x -> x.walk(-1), x -> x.walk(MOST_INT));
        Due.is("PROPER", furnishedTwo().walk(0), 0);
    }

    private static void noSuchSet() {
        Refused.ints(PLACE, Samples::furnishedTwo, x -> x.walk(3), x -> x.walk(-1), x -> x.walk(63), x -> x.walk(64), x -> x.walk(65),
            x -> x.walk(LEAST_INT), x -> x.walk(MOST_INT));
        Refused.ints(PLACE, Samples::furnished, x -> x.walk(1));
        Refused.ints(PLACE, Samples::furnishedEmpty, x -> x.walk(2));
        Due.is("the last of two", two().walk(2), 3);
        Due.is("the last of none", empty().walk(1), 2);
        LeastInBounds x = stairs();
        Due.is("the last of a longer one", x.walk(4), 12);
        x.push(0, -99);
        x.push(1, -99);
        Due.is("no more of it", x.walk(1), PLACE);
    }

    private static void piecesAtEnds() {
        LeastInBounds x = new LeastInBounds();
        addLine(x, OVER, -9, 9, 1, 0);
        addLine(x, OVER, -39, 1, 0, 1);
        // x0 over 9 T - 9, x1 over T - 39: weights come at T 2 and T 40.
        Due.is("to the least", x.pieces(1), 0);
        Due.is("just behind the first", x.pieces(2), 1);
        Due.is("just before the last", x.pieces(39), 1);
        Due.is("to the most", x.pieces(40), 2);
        x.change(0, 1, 0);
        Due.is("from T 0 to 1", x.pieces(1), 1);
        x.change(0, 1, 1);
        Due.is("it is so at T 0", x.pieces(1), 0);
        addLine(x, UNDER, 40, -1, 1, 0);
        // x0 no more than 40 - T, and 9 T + 1 at the least: no place from T 4 on.
        Due.is("the last with a place", x.pieces(3), 0);
        Due.is("NONE is another", x.pieces(4), 1);
        Due.is("NONE to NONE isn't", x.pieces(40), 1);
        x.change(0, 2, -9);
        x.change(2, 1, -9);
        x.change(2, 2, 9);
        // x0 from 1 - 9 T to 9 T - 9: no place at T 0; at T 1 it is 0, and from then on free.
        Due.is("from NONE on", x.pieces(1), 1);
        x.tide(40);
        Due.is("T of now does nothing", x.pieces(1), 1);
    }

    private static void badPieces() {
        Refused.ints(BAD, Samples::furnishedTwo, x -> x.pieces(0), x -> x.pieces(41), x -> x.pieces(-1), x -> x.pieces(LEAST_INT), x -> x.pieces(MOST_INT));
        Due.is("the least", two().pieces(1), 0);
        Due.is("the most", two().pieces(40), 0);
    }

    private static void stateOfPieces() {
        Refused.ints(STATE, Samples::furnishedImproper, x -> x.pieces(1), x -> x.pieces(40));
    }

    private static void badReach() {
        Refused.longs(BAD, Samples::furnishedTwo, x -> x.reach(2), x -> x.reach(-1), x -> x.reach(LEAST_INT), x -> x.reach(MOST_INT));
        LeastInBounds x = two();
        x.change(0, 2, 1);
        fraction("both parts", x.reach(0), x.reach(1), 2, 1);
    }

    private static void stateOfReach() {
        Refused.longs(STATE, Samples::furnishedImproper, x -> x.reach(0), x -> x.reach(1));
    }

    private static void noReach() {
        Refused.longs(NONE, Samples::furnishedEmpty, x -> x.reach(0), x -> x.reach(1));
        for (int d = -1; d <= 1; d++) {
            LeastInBounds none = empty();
            none.change(0, 2, d);
            none.change(1, 2, -d);
            Due.refused("no answer, though lines move", none.reach(0), NONE);
            none.change(1, 2, d);
            Due.refused("no answer, though lines move together", none.reach(1), NONE);
        }
        Refused.longs(NONE, Samples::furnishedTwo, x -> x.reach(0), x -> x.reach(1));
        Refused.longs(NONE, Samples::furnished, x -> x.reach(0), x -> x.reach(1));
        LeastInBounds x = two();
        x.change(0, 2, -1);
        Due.refused("weights that grow", x.reach(0), NONE);
        x.change(1, 2, 1);
        Due.refused("weights that grow, of both", x.reach(0), NONE);
        x.change(1, 2, -1);
        // x0 over 3 - t, x0 + x1 under 5 - t: x is (3 - t, 2), weights 2 and 2 - t.
        fraction("one that stays, one that falls", x.reach(0), x.reach(1), 2, 1);
        x.change(1, 2, -2);
        // x is (3 - 2 t, 2 + t): weights 2 - t and 2 - 3 t
        fraction("the first to fall to 0", x.reach(0), x.reach(1), 2, 3);
    }

    private static void placesOfNearest() {
        for (int n = 1; n <= 3; n++) {
            LeastInBounds x = new LeastInBounds();
            x.size(n);
            addLine(x, UNDER, 0, 0, 1, 1, 1);
            for (int i = 0; i < n; i++) {
                fraction("all the least", x.nearest(-99, -99, -99, i, 0), x.nearest(-99, -99, -99, i, 1), -99, 1);
                fraction("all the most", x.nearest(99, 99, 99, i, 0), x.nearest(99, 99, 99, i, 1), 0, 1);
            }
            fraction("how far", x.distance(99, 99, 99, 0), x.distance(99, 99, 99, 1), 9801 * n, 1);
        }
        LeastInBounds x = new LeastInBounds();
        x.size(1);
        addLine(x, ON, 1, 0, 1);
        Due.each("q, r do nothing", 1, x.nearest(0, 0, 0, 0, 0), x.nearest(0, 99, 99, 0, 0), x.nearest(0, -99, 99, 0, 0));
        Due.each("q, r do nothing to how far it is", 4, x.distance(3, 0, 0, 0), x.distance(3, 99, -99, 0), x.distance(3, -99, 99, 0));
    }

    private static void badNearest() {
        Refused.longs(BAD, () -> furnishedOfSize(3), x -> x.nearest(100, 0, 0, 0, 0), x -> x.nearest(-100, 0, 0, 0, 0), x -> x.nearest(0, 100, 0, 0, 0),
            x -> x.nearest(0, -100, 0, 0, 0), x -> x.nearest(0, 0, 100, 0, 0), x -> x.nearest(0, 0, -100, 0, 0), x -> x.nearest(0, 0, 0, 3, 0),
            x -> x.nearest(0, 0, 0, -1, 0), x -> x.nearest(0, 0, 0, 0, 2), x -> x.nearest(0, 0, 0, 0, -1), x -> x.nearest(LEAST_INT, 0, 0, 0, 0),
            x -> x.nearest(0, MOST_INT, 0, 0, 0), x -> x.nearest(0, 0, LEAST_INT, 0, 0), x -> x.nearest(0, 0, 0, MOST_INT, 0),
            x -> x.nearest(0, 0, 0, LEAST_INT, 0), x -> x.nearest(0, 0, 0, 0, MOST_INT), x -> x.nearest(0, 0, 0, 0, LEAST_INT));
        for (int n = 1; n <= 3; n++) {
            int size = n;
            Refused.longs(BAD, () -> furnishedOfSize(size), x -> x.nearest(0, 0, 0, size, 0), x -> x.nearest(100, 0, 0, 0, 0), x -> x.nearest(0, 0, -100, 0, 0));
            Due.is("the last", furnishedOfSize(n).nearest(0, 0, 0, n - 1, 1), 1);
        }
        Due.is("a bowl that isn't PROPER doesn't matter", furnishedImproper().nearest(3, 0, 0, 0, 0), 3);
    }

    private static void noNearest() {
        Refused.longs(NONE, Samples::furnishedEmpty, x -> x.nearest(0, 0, 0, 0, 0), x -> x.nearest(99, 99, 99, 1, 1));
        Refused.longs(NONE, () -> bentTooFar(furnishedEmpty()), x -> x.nearest(0, 0, 0, 0, 0));
        LeastInBounds x = empty();
        x.change(0, 1, 2);
        fraction("one place is left", x.nearest(-9, 5, 0, 0, 0), x.nearest(-9, 5, 0, 0, 1), 2, 1);
    }

    private static void distanceOfNone() {
        LeastInBounds x = new LeastInBounds();
        fraction("no lines", x.distance(99, -99, 99, 0), x.distance(99, -99, 99, 1), 0, 1);
        addLine(x, UNDER, 5, 0, 1, 0);
        fraction("just within", x.distance(5, 99, 0, 0), x.distance(5, 99, 0, 1), 0, 1);
        fraction("just without", x.distance(6, 99, 0, 0), x.distance(6, 99, 0, 1), 1, 1);
        x.slope(0, 0, 9);
        fraction("four ninths without", x.distance(1, 0, 0, 0), x.distance(1, 0, 0, 1), 16, 81);
    }

    private static void badDistance() {
        Refused.longs(BAD, () -> furnishedOfSize(3), x -> x.distance(100, 0, 0, 0), x -> x.distance(-100, 0, 0, 0), x -> x.distance(0, 100, 0, 0),
            x -> x.distance(0, -100, 0, 0), x -> x.distance(0, 0, 100, 0), x -> x.distance(0, 0, -100, 0), x -> x.distance(0, 0, 0, 2),
            x -> x.distance(0, 0, 0, -1), x -> x.distance(LEAST_INT, 0, 0, 0), x -> x.distance(0, MOST_INT, 0, 0), x -> x.distance(0, 0, LEAST_INT, 0),
            x -> x.distance(0, 0, 0, MOST_INT), x -> x.distance(0, 0, 0, LEAST_INT));
        Refused.longs(BAD, () -> furnishedOfSize(1), x -> x.distance(0, 100, 0, 0), x -> x.distance(0, 0, -100, 0));
        Due.is("a bowl that isn't PROPER doesn't matter", furnishedImproper().distance(3, 0, 0, 0), 0);
    }

    private static void noDistance() {
        Refused.longs(NONE, Samples::furnishedEmpty, x -> x.distance(0, 0, 0, 0), x -> x.distance(99, 99, 99, 1));
        Refused.longs(NONE, () -> bentTooFar(furnishedEmpty()), x -> x.distance(0, 0, 0, 0));
        LeastInBounds x = empty();
        x.change(0, 1, 2);
        fraction("one place is left", x.distance(-9, 5, 0, 0), x.distance(-9, 5, 0, 1), 121, 1);
    }
}

/** Boundary cases of promises 13 to 19: answers. */
final class BoundsOfAnswers extends Samples {
    private BoundsOfAnswers() {
    }

    static void tell(Sentences told) {
        told.under("Promise 13: working");
        told.has("BAD: a LINE that isn't there", BoundsOfAnswers::badWorking);
        told.has("STATE: the bowl isn't PROPER", BoundsOfAnswers::stateOfWorking);
        told.has("NONE.", BoundsOfAnswers::noneWorking);
        told.under("Promise 14: answer");
        told.has("BAD: set, i, part", BoundsOfAnswers::badAnswer);
        told.has("STATE", BoundsOfAnswers::stateOfAnswer);
        told.has("NONE.", BoundsOfAnswers::noAnswer);
        told.under("Promise 15: worth");
        told.has("BAD: set, part", BoundsOfAnswers::badWorth);
        told.has("STATE", BoundsOfAnswers::stateOfWorth);
        told.has("NONE.", BoundsOfAnswers::noWorth);
        told.under("Promise 16: weight");
        told.has("BAD: set, line (not of the set), part", BoundsOfAnswers::badWeight);
        told.has("STATE", BoundsOfAnswers::stateOfWeight);
        told.has("NONE.", BoundsOfAnswers::noWeight);
        told.under("Promise 17: slack");
        told.has("SLACK of a LINE (of any) by ANSWER.", BoundsOfAnswers::slackOfAny);
        told.has("BAD: set, line, part", BoundsOfAnswers::badSlack);
        told.has("STATE", BoundsOfAnswers::stateOfSlack);
        told.has("NONE.", BoundsOfAnswers::noSlack);
        told.under("Promise 18: held");
        told.has("Which LINES (of all) ANSWER HOLDS.", BoundsOfAnswers::heldOfAll);
        told.has("BAD", BoundsOfAnswers::badHeld);
        told.has("STATE", BoundsOfAnswers::stateOfHeld);
        told.has("NONE.", BoundsOfAnswers::noneHeld);
        told.under("Promise 19: tight");
        told.has("Which LINES (of all) have SLACK 0 by ANSWER.", BoundsOfAnswers::tightOfAll);
        told.has("BAD", BoundsOfAnswers::badTight);
        told.has("STATE", BoundsOfAnswers::stateOfTight);
        told.has("NONE.", BoundsOfAnswers::noneTight);
    }

    /** Minor 2 is just 0. */
    private static LeastInBounds flat() {
        LeastInBounds x = furnishedTwo();
        x.bend(0, 1, 1);
        return x;
    }

    /** Minor 2 is 1. */
    private static LeastInBounds almostFlat() {
        LeastInBounds x = flat();
        x.bend(1, 1, 2);
        return x;
    }

    private static void badWorking() {
        Refused.ints(BAD, Samples::furnishedTwo, x -> x.working(4), x -> x.working(7), x -> x.working(64), x -> x.working(-1),
            x -> x.working(LEAST_INT), x -> x.working(MOST_INT), x -> x.working(LEAST_INT + 3));
        Refused.ints(BAD, Samples::furnished, x -> x.working(1), x -> x.working(-1), x -> x.working(32));
        Refused.ints(BAD, Samples::full, x -> x.working(64), x -> x.working(127), x -> x.working(-64));
        Due.is("all of two", two().working(3), 3);
        Due.is("all of six", full().working(63), NONE);
    }

    private static void stateOfWorking() {
        Refused.ints(STATE, Samples::furnishedImproper, x -> x.working(0), x -> x.working(3));
        Refused.ints(STATE, BoundsOfAnswers::flat, x -> x.working(0), x -> x.working(1), x -> x.working(3));
        Due.is("just PROPER", almostFlat().working(0), 0);
    }

    private static void noneWorking() {
        Refused.ints(NONE, Samples::furnishedEmpty, x -> x.working(3));
        Due.is("of line 0 alone", empty().working(1), 0);
        Due.is("of line 1 alone", empty().working(2), 2);
        Due.is("of no lines", empty().working(0), 0);
        LeastInBounds x = empty();
        x.change(0, 1, 2);
        Due.is("one place is left", x.working(3), 2);
    }

    private static void badAnswer() {
        Refused.longs(BAD, Samples::furnishedTwo, x -> x.answer(4, 0, 0), x -> x.answer(-1, 0, 0), x -> x.answer(LEAST_INT, 0, 0),
            x -> x.answer(MOST_INT, 0, 0), x -> x.answer(0, 2, 0), x -> x.answer(0, -1, 0), x -> x.answer(0, LEAST_INT, 0),
            x -> x.answer(0, MOST_INT, 0), x -> x.answer(0, 0, 2), x -> x.answer(0, 0, -1), x -> x.answer(0, 0, LEAST_INT), x -> x.answer(0, 0, MOST_INT));
        Refused.longs(BAD, Samples::full, x -> x.answer(64, 0, 0), x -> x.answer(0, 3, 0));
        Due.is("the last of all, below", two().answer(3, 1, 1), 1);
    }

    private static void stateOfAnswer() {
        Refused.longs(STATE, Samples::furnishedImproper, x -> x.answer(0, 0, 0), x -> x.answer(3, 1, 1));
        Refused.longs(STATE, BoundsOfAnswers::flat, x -> x.answer(0, 0, 0), x -> x.answer(3, 1, 1));
        // x0 + x1 = 3, x0 + 2 x1 = 4
        fraction("just PROPER", almostFlat().answer(0, 0, 0), almostFlat().answer(0, 0, 1), 2, 1);
    }

    private static void noAnswer() {
        Refused.longs(NONE, Samples::furnishedEmpty, x -> x.answer(3, 0, 0), x -> x.answer(3, 1, 1));
        fraction("of line 1 alone", empty().answer(2, 0, 0), empty().answer(2, 0, 1), 2, 1);
    }

    private static void badWorth() {
        Refused.longs(BAD, Samples::furnishedTwo, x -> x.worth(4, 0), x -> x.worth(-1, 0), x -> x.worth(LEAST_INT, 0), x -> x.worth(MOST_INT, 0),
            x -> x.worth(0, 2), x -> x.worth(0, -1), x -> x.worth(0, LEAST_INT), x -> x.worth(0, MOST_INT));
        Refused.longs(BAD, Samples::full, x -> x.worth(64, 0));
        fraction("of all", two().worth(3, 0), two().worth(3, 1), -21, 2);
    }

    private static void stateOfWorth() {
        Refused.longs(STATE, Samples::furnishedImproper, x -> x.worth(0, 0), x -> x.worth(3, 1));
        Refused.longs(STATE, BoundsOfAnswers::flat, x -> x.worth(0, 0), x -> x.worth(3, 1));
        // (2, 1): (4 + 4 + 2) / 2 - 6 - 4
        fraction("just PROPER", almostFlat().worth(0, 0), almostFlat().worth(0, 1), -5, 1);
    }

    private static void noWorth() {
        Refused.longs(NONE, Samples::furnishedEmpty, x -> x.worth(3, 0), x -> x.worth(3, 1));
        fraction("of line 1 alone", empty().worth(2, 0), empty().worth(2, 1), 2, 1);
    }

    private static void badWeight() {
        Refused.longs(BAD, Samples::furnishedTwo, x -> x.weight(4, 0, 0), x -> x.weight(7, 0, 0), x -> x.weight(-1, 0, 0), x -> x.weight(LEAST_INT, 0, 0),
            x -> x.weight(MOST_INT, 0, 0), x -> x.weight(3, 2, 0), x -> x.weight(3, -1, 0), x -> x.weight(3, LEAST_INT, 0), x -> x.weight(3, MOST_INT, 0),
            x -> x.weight(3, 32, 0), x -> x.weight(3, 33, 0), x -> x.weight(3, -32, 0), x -> x.weight(3, 0, 2), x -> x.weight(3, 0, -1),
            x -> x.weight(3, 0, LEAST_INT), x -> x.weight(3, 0, MOST_INT));
        Refused.longs(BAD, Samples::furnishedTwo, x -> x.weight(0, 0, 0), x -> x.weight(0, 1, 0), x -> x.weight(1, 1, 0), x -> x.weight(2, 0, 1));
        Refused.longs(BAD, Samples::full, x -> x.weight(64, 0, 0), x -> x.weight(31, 5, 0), x -> x.weight(62, 0, 0), x -> x.weight(63, 6, 0));
        fraction("of the set, the last", two().weight(3, 1, 0), two().weight(3, 1, 1), 2, 1);
        fraction("of the set, alone", two().weight(2, 1, 0), two().weight(2, 1, 1), 0, 1);
    }

    private static void stateOfWeight() {
        Refused.longs(STATE, Samples::furnishedImproper, x -> x.weight(1, 0, 0), x -> x.weight(3, 1, 1));
        Refused.longs(STATE, BoundsOfAnswers::flat, x -> x.weight(1, 0, 0), x -> x.weight(3, 1, 1));
        fraction("just PROPER", almostFlat().weight(1, 0, 0), almostFlat().weight(1, 0, 1), 0, 1);
    }

    private static void noWeight() {
        Refused.longs(NONE, Samples::furnishedEmpty, x -> x.weight(3, 0, 0), x -> x.weight(3, 1, 1));
        fraction("of line 1 alone", empty().weight(2, 1, 0), empty().weight(2, 1, 1), 2, 1);
    }

    private static void slackOfAny() {
        LeastInBounds x = two();
        fraction("of none: line 0", x.slack(0, 0, 0), x.slack(0, 0, 1), -2, 1);
        fraction("of none: line 1", x.slack(0, 1, 0), x.slack(0, 1, 1), 0, 1);
        fraction("of line 0: line 1", x.slack(1, 1, 0), x.slack(1, 1, 1), -1, 1);
        fraction("of line 0: itself", x.slack(1, 0, 0), x.slack(1, 0, 1), 0, 1);
    }

    private static void badSlack() {
        Refused.longs(BAD, Samples::furnishedTwo, x -> x.slack(4, 0, 0), x -> x.slack(-1, 0, 0), x -> x.slack(LEAST_INT, 0, 0), x -> x.slack(MOST_INT, 0, 0),
            x -> x.slack(0, 2, 0), x -> x.slack(0, -1, 0), x -> x.slack(0, LEAST_INT, 0), x -> x.slack(0, MOST_INT, 0), x -> x.slack(0, 32, 0),
            x -> x.slack(0, 0, 2), x -> x.slack(0, 0, -1), x -> x.slack(0, 0, LEAST_INT), x -> x.slack(0, 0, MOST_INT));
        Refused.longs(BAD, Samples::furnished, x -> x.slack(0, 0, 0));
        Refused.longs(BAD, Samples::full, x -> x.slack(64, 0, 0), x -> x.slack(0, 6, 0));
        Due.is("the last of all, below", two().slack(3, 1, 1), 1);
    }

    private static void stateOfSlack() {
        Refused.longs(STATE, Samples::furnishedImproper, x -> x.slack(0, 0, 0), x -> x.slack(3, 1, 1));
        Refused.longs(STATE, BoundsOfAnswers::flat, x -> x.slack(0, 0, 0), x -> x.slack(3, 1, 1));
        fraction("just PROPER", almostFlat().slack(0, 0, 0), almostFlat().slack(0, 0, 1), 2, 1);
    }

    private static void noSlack() {
        Refused.longs(NONE, Samples::furnishedEmpty, x -> x.slack(3, 0, 0), x -> x.slack(3, 1, 1));
        fraction("of line 1 alone", empty().slack(2, 0, 0), empty().slack(2, 0, 1), -1, 1);
    }

    /** One variable at 0, and six lines: held, not, just held, just on, off by one on either side. */
    private static LeastInBounds sixAround() {
        LeastInBounds x = new LeastInBounds();
        x.size(1);
        addLine(x, UNDER, 1, 0, 1);
        addLine(x, UNDER, -1, 0, 1);
        addLine(x, OVER, 0, 0, 1);
        addLine(x, ON, 0, 0, 1);
        addLine(x, ON, 1, 0, 1);
        addLine(x, ON, -1, 0, 1);
        return x;
    }

    private static void heldOfAll() {
        Due.is("of no lines", new LeastInBounds().held(0), 0);
        Due.is("by 0", sixAround().held(0), 1 + 4 + 8);
        Due.is("by 1", sixAround().held(16), 1 + 4 + 16);
        Due.is("by -1", sixAround().held(2), 1 + 2 + 32);
        LeastInBounds x = new LeastInBounds();
        for (int l = 0; l < 6; l++) {
            addLine(x, ON, 0, 0, 1, l);
        }
        Due.is("all six", x.held(0), 63);
    }

    private static void badHeld() {
        Refused.ints(BAD, Samples::furnishedTwo, x -> x.held(4), x -> x.held(64), x -> x.held(-1), x -> x.held(LEAST_INT), x -> x.held(MOST_INT));
        Refused.ints(BAD, Samples::furnished, x -> x.held(1));
        Refused.ints(BAD, Samples::full, x -> x.held(64));
        Due.is("all of two", two().held(3), 3);
    }

    private static void stateOfHeld() {
        Refused.ints(STATE, Samples::furnishedImproper, x -> x.held(0), x -> x.held(3));
        Refused.ints(STATE, BoundsOfAnswers::flat, x -> x.held(0), x -> x.held(3));
        Due.is("just PROPER", almostFlat().held(0), 1);
    }

    private static void noneHeld() {
        Refused.ints(NONE, Samples::furnishedEmpty, x -> x.held(3));
        Due.is("of line 1 alone", empty().held(2), 2);
    }

    private static void tightOfAll() {
        Due.is("of no lines", new LeastInBounds().tight(0), 0);
        Due.is("by 0", sixAround().tight(0), 4 + 8);
        Due.is("by 1", sixAround().tight(16), 1 + 16);
        Due.is("by -1", sixAround().tight(2), 2 + 32);
        LeastInBounds x = new LeastInBounds();
        for (int l = 0; l < 6; l++) {
            addLine(x, UNDER, 0, 0, 1, l);
        }
        Due.is("all six", x.tight(0), 63);
    }

    private static void badTight() {
        Refused.ints(BAD, Samples::furnishedTwo, x -> x.tight(4), x -> x.tight(64), x -> x.tight(-1), x -> x.tight(LEAST_INT), x -> x.tight(MOST_INT));
        Refused.ints(BAD, Samples::furnished, x -> x.tight(1));
        Refused.ints(BAD, Samples::full, x -> x.tight(64));
        Due.is("all of two", two().tight(3), 3);
    }

    private static void stateOfTight() {
        Refused.ints(STATE, Samples::furnishedImproper, x -> x.tight(0), x -> x.tight(3));
        Refused.ints(STATE, BoundsOfAnswers::flat, x -> x.tight(0), x -> x.tight(3));
        Due.is("just PROPER", almostFlat().tight(0), 0);
    }

    private static void noneTight() {
        Refused.ints(NONE, Samples::furnishedEmpty, x -> x.tight(3));
        Due.is("of line 1 alone", empty().tight(2), 2);
    }
}

/** Boundary cases of what the document says it is, and of its terms: refusals, the bowl, lines. */
final class BoundsOfTerms extends Samples {
    private static final long NO_AND_NONE = -4611686018427387905L, NO_AND_BAD = -4611686018427387906L, NO_AND_STATE = -4611686018427387907L;
    private static final long NO_AND_NOTHING = -4611686018427387915L, NO_AND_PLACE = -4611686018427387916L;

    private BoundsOfTerms() {
    }

    static void tell(Sentences told) {
        told.under("What it is");
        told.has("Least places in bounds, exactly: a bowl of up to three numbers", BoundsOfTerms::upToThreeNumbers);
        told.has("up to six lines of kinds that bound it", BoundsOfTerms::upToSixLines);
        told.has("the least place in what the lines leave, as fractions, with the least set of lines that does it", BoundsOfTerms::leastOfWhatIsLeft);
        told.has("a walk by the least line that doesn't hold, set by set, which ends", BoundsOfTerms::walkEnds);
        told.has("how often, a mark of all, the last eight, the least worth so far", BoundsOfTerms::lastEight);
        told.has("An object is used for at most 512 calls after it has been made", BoundsOfTerms::to512Calls);
        told.under("Terms");
        told.has("FRACTIONS, which are told in lowest terms: part 0 above, 1 below the line (above 0; 1 for 0)", BoundsOfTerms::lowestTerms);
        told.has("A call that is refused answers NONE (-1), BAD (-2), STATE (-3), FULL (-4), MUCH (-5),"
            + " or by the host NOTHING (-11), PLACE (-12), KIND (-13), SIZE (-14)", BoundsOfTerms::refusals);
        told.has("where a long is answered NO (-4611686018427387904) and that one, together", BoundsOfTerms::refusalsOfLongs);
        told.has("of several the one that stands first with it", BoundsOfTerms::firstOfSeveral);
        told.has("it changes nothing, but where told", BoundsOfTerms::changesNothing);
        told.has("There are n VARIABLES x(0) .. x(n - 1) (n 1 .. 3; 2 at first)", BoundsOfTerms::variables);
        told.has("BENDS q(i, j), alike for j, i: -9 .. 9, where i, j are unlike (0 at first), 1 .. 20, where not (1 at first)", BoundsOfTerms::bends);
        told.has("PUSHES c(i): -99 .. 99 (0 at first)", BoundsOfTerms::pushes);
        told.has("The bowl is PROPER, if for each k 1 .. n the MINOR k (the determinant of q(i, j), i, j below k) is above 0", BoundsOfTerms::proper);
        told.has("TIDE T is 0 .. 40 (0 at first)", BoundsOfTerms::tide);
        told.has("LINES are numbered from 0 on as they come, 6 at most", BoundsOfTerms::numbersOfLines);
        told.has("each of a KIND, with numbers a(0) .. a(2) (-9 .. 9; 0 at first;", BoundsOfTerms::numbersOfALine);
        told.has("those of no VARIABLE do nothing)", BoundsOfTerms::slopesThatDoNothing);
        told.has(", b (-99 .. 99), d (-9 .. 9)", BoundsOfTerms::basesAndDrifts);
        told.has("With e = b + T * d, a LINE's ROW g and BOUND h by KIND: 0 UNDER: a; e. 1 OVER: a, each less than 0 turned above and the other way (-a); -e. 2 ON: a; e."
            + " 3 TWICE: 2 * a; e. 4 APART: -a; -e - 1.", BoundsOfTerms::rowsAndBounds);
        told.has("A place x HOLDS a LINE, if the sum of g(i) * x(i) is no more than h; for ON if it is h.", BoundsOfTerms::holds);
    }

    private static void upToThreeNumbers() {
        LeastInBounds x = new LeastInBounds();
        Due.is("three", x.size(3), 2);
        x.push(2, -5);
        fraction("the third", x.answer(0, 2, 0), x.answer(0, 2, 1), 5, 1);
        Due.is("four", x.size(4), BAD);
        Due.is("one", x.size(1), 3);
        Due.is("none", x.size(0), BAD);
    }

    private static void upToSixLines() {
        LeastInBounds x = new LeastInBounds();
        x.push(0, -9);
        Due.is("no line, which leaves all", x.working(0), 0);
        for (int l = 0; l < 6; l++) {
            addLine(x, UNDER, 6 - l, 0, 1);
            Due.is("bound by line " + l, x.working((2 << l) - 1), 1 << l);
        }
        Due.is("a seventh", x.line(UNDER, 0, 0), FULL);
    }

    private static void leastOfWhatIsLeft() {
        LeastInBounds x = new LeastInBounds();
        addLine(x, UNDER, 2, 0, 3, 0);
        addLine(x, OVER, 2, 0, 3, 0);
        fraction("one place in x(0)", x.answer(3, 0, 0), x.answer(3, 0, 1), 2, 3);
        Due.is("the least set", x.working(3), 2);
        addLine(x, APART, 1, 0, 3, 0);
        Due.is("again left", x.working(7), 2);
        x.change(2, 1, 2);
        Due.is("nothing is left", x.working(7), NONE);
    }

    private static LeastInBounds sixStairs() {
        LeastInBounds x = new LeastInBounds();
        for (int l = 0; l < 6; l++) {
            addLine(x, OVER, l + 1, 0, 1);
        }
        return x;
    }

    private static void walkEnds() {
        LeastInBounds x = sixStairs();
        Due.is("line by line", x.steps(), 6);
        Due.is("the last set", x.walk(6), 32);
        Due.is("none behind it", x.walk(7), PLACE);
        x.push(0, -6);
        Due.is("no line that doesn't hold", x.steps(), 0);
    }

    private static void lastEight() {
        LeastInBounds x = sixStairs();
        for (int k = 0; k < 9; k++) {
            x.solve();
            x.drop(0);
        }
        // 6 lines: the sixth does it; 5: the fifth; ..; then no lines at all.
        int[] due = {0, 0, 0, 1, 2, 4, 8, 16};
        for (int k = 0; k < 8; k++) {
            Due.is("the last but " + k, x.trail(k), due[k]);
        }
        Due.is("the first of nine", x.trail(8), PLACE);
        Due.is("how often", x.notes(), 9);
        fraction("the least worth", x.least(0), x.least(1), 0, 1);
    }

    /** Of 512 calls each is as due, the last one too. */
    private static void to512Calls() {
        LeastInBounds x = two();
        int made = 9;
        long mark = 0;
        for (int k = 0; made + k < 505; k++) {
            Due.is("solve " + k, x.solve(), 3);
            mark = mark * 31 + 3;
        }
        Due.is("call 506", x.notes(), 505 - made);
        Due.is("call 507", x.mark(), mark);
        Due.is("call 508", x.trail(7), 3);
        Due.is("call 509", x.certify(3), 5);
        Due.is("call 510", x.check(3), 0);
        Due.is("call 511", x.line(UNDER, 0, 0), 2);
        Due.is("call 512", x.least(0), -21);
    }

    private static void lowestTerms() {
        LeastInBounds x = new LeastInBounds();
        x.size(1);
        x.bend(0, 0, 6);
        x.push(0, -4);
        addLine(x, UNDER, 5, -6, 2);
        addLine(x, UNDER, 2, 0, 3);
        addLine(x, UNDER, -4, 0, 3);
        fraction("answer", x.answer(0, 0, 0), x.answer(0, 0, 1), 2, 3);
        fraction("worth", x.worth(0, 0), x.worth(0, 1), -4, 3);
        fraction("slack", x.slack(0, 0, 0), x.slack(0, 0, 1), 11, 3);
        fraction("slack of 0", x.slack(0, 1, 0), x.slack(0, 1, 1), 0, 1);
        fraction("slack below 0, whole", x.slack(0, 2, 0), x.slack(0, 2, 1), -6, 1);
        x.drop(2);
        fraction("reach, 11 / 3 over 6", x.reach(0), x.reach(1), 11, 18);
        x.solve();
        fraction("least", x.least(0), x.least(1), -4, 3);
        x.push(0, 4);
        fraction("answer below 0", x.answer(0, 0, 0), x.answer(0, 0, 1), -2, 3);
        x.push(0, 0);
        fraction("answer of 0", x.answer(0, 0, 0), x.answer(0, 0, 1), 0, 1);
        fraction("worth of 0", x.worth(0, 0), x.worth(0, 1), 0, 1);
        fraction("weight of 0", x.weight(1, 0, 0), x.weight(1, 0, 1), 0, 1);
        lowestTermsOfWeights();
        lowestTermsOfNearest();
    }

    private static void lowestTermsOfWeights() {
        LeastInBounds x = new LeastInBounds();
        x.size(1);
        x.bend(0, 0, 6);
        addLine(x, ON, 4, -2, 4);
        // x is 1, and 6 + 4 y = 0
        fraction("weight below 0", x.weight(1, 0, 0), x.weight(1, 0, 1), -3, 2);
        x.push(0, -10);
        fraction("weight above 0, whole", x.weight(1, 0, 0), x.weight(1, 0, 1), 1, 1);
        x.solve();
        fraction("least, whole", x.least(0), x.least(1), -7, 1);
        x.change(0, 0, UNDER);
        Due.refused("it weighs more and more", x.reach(0), NONE);
        x.change(0, 2, 2);
        // The weight goes from 1 down by 6 / 4 * 1 / 2 a tide.
        fraction("reach, till the weight is 0", x.reach(0), x.reach(1), 4, 3);
        x.push(0, -6);
        Due.refused("just met without weight, and it goes away", x.reach(0), NONE);
        addLine(x, UNDER, 1, -1, 1);
        fraction("reach of 0, at once", x.reach(0), x.reach(1), 0, 1);
    }

    private static void lowestTermsOfNearest() {
        LeastInBounds x = new LeastInBounds();
        addLine(x, UNDER, 5, 0, 1, 1);
        fraction("nearest", x.nearest(3, 3, 0, 0, 0), x.nearest(3, 3, 0, 0, 1), 5, 2);
        fraction("nearest below 0", x.nearest(-3, 3, 0, 0, 0), x.nearest(-3, 3, 0, 0, 1), -3, 1);
        fraction("nearest of 0", x.nearest(0, 3, 0, 0, 0), x.nearest(0, 3, 0, 0, 1), 0, 1);
        fraction("distance", x.distance(3, 3, 0, 0), x.distance(3, 3, 0, 1), 1, 2);
        fraction("distance, whole", x.distance(4, 3, 0, 0), x.distance(4, 3, 0, 1), 2, 1);
        fraction("distance of 0", x.distance(0, 5, 0, 0), x.distance(0, 5, 0, 1), 0, 1);
    }

    private static void refusals() {
        Due.is("NONE", empty().working(3), -1);
        Due.is("BAD", new LeastInBounds().size(0), -2);
        Due.is("STATE", new LeastInBounds().back(), -3);
        Due.is("FULL", full().line(UNDER, 0, 0), -4);
        Due.is("MUCH", furnished().cell(0, 0, 1L << 31), -5);
        Due.is("NOTHING", furnished().cell(3, 0, 0), -11);
        Due.is("PLACE", furnished().cell(0, 5, 0), -12);
        Due.is("KIND", furnished().copy(0, 0, 1, 0, 1), -13);
        Due.is("SIZE", furnished().sheet(0, INTS, -1), -14);
    }

    private static void refusalsOfLongs() {
        LeastInBounds x = two();
        Due.each("BAD", NO_AND_BAD, x.answer(4, 0, 0), x.worth(4, 0), x.weight(4, 0, 0), x.slack(4, 0, 0), x.reach(2),
            x.nearest(100, 0, 0, 0, 0), x.distance(100, 0, 0, 0), x.least(2), x.read(4, 0));
        Due.each("NONE", NO_AND_NONE, empty().answer(3, 0, 0), empty().worth(3, 0), empty().weight(3, 0, 0), empty().slack(3, 0, 0),
            empty().reach(0), empty().nearest(0, 0, 0, 0, 0), empty().distance(0, 0, 0, 0), x.least(0), new LeastInBounds().reach(0));
        LeastInBounds y = bentTooFar(two());
        Due.each("STATE", NO_AND_STATE, y.answer(3, 0, 0), y.worth(3, 0), y.weight(3, 0, 0), y.slack(3, 0, 0), y.reach(0));
        Due.is("NOTHING", x.read(0, 0), NO_AND_NOTHING);
        Due.is("PLACE", furnished().read(0, 5), NO_AND_PLACE);
    }

    private static void firstOfSeveral() {
        Due.is("line: BAD, FULL", full().line(5, 0, 0), BAD);
        LeastInBounds x = bentTooFar(empty());
        Due.each("BAD, STATE, NONE", BAD, x.working(4), x.held(4), x.tight(4), x.pieces(0), x.pieces(41), x.certify(4));
        Due.each("BAD, STATE, NONE", NO_AND_BAD, x.answer(3, 2, 0), x.answer(4, 0, 0), x.answer(3, 0, 2), x.worth(4, 0), x.worth(3, 2),
            x.weight(4, 0, 0), x.weight(1, 1, 0), x.weight(3, 0, 2), x.slack(4, 0, 0), x.slack(3, 2, 0), x.slack(3, 0, 2), x.reach(2));
        Due.each("STATE, NONE", STATE, x.working(3), x.held(3), x.tight(3), x.steps(), x.certify(0), x.solve());
        Due.each("STATE, NONE", NO_AND_STATE, x.answer(3, 0, 0), x.worth(3, 0), x.weight(3, 0, 0), x.slack(3, 0, 0), x.reach(0));
        Due.each("STATE, PLACE", STATE, x.walk(-1), x.walk(64), x.walk(0));
        LeastInBounds y = empty();
        Due.each("BAD, NONE", BAD, y.working(4), y.held(4), y.tight(4), y.certify(4));
        Due.each("BAD, NONE", NO_AND_BAD, y.answer(3, 2, 0), y.worth(3, 2), y.weight(3, 0, 2), y.slack(3, 2, 0), y.reach(2),
            y.nearest(0, 0, 0, 2, 0), y.nearest(100, 0, 0, 0, 0), y.nearest(0, 0, 0, 0, 2), y.distance(0, 0, 0, 2), y.distance(0, 100, 0, 0), y.least(2));
        firstOfSeveralWithSheets();
    }

    private static void firstOfSeveralWithSheets() {
        LeastInBounds x = furnished();
        Due.each("sheet: BAD, SIZE", BAD, x.sheet(4, INTS, -1), x.sheet(0, 2, -1), x.sheet(0, -2, -1));
        Due.each("cell: BAD, PLACE, MUCH", BAD, x.cell(4, 12, 1L << 40), x.cell(-1, -1, 0));
        Due.each("cell: NOTHING, PLACE, MUCH", NOTHING, x.cell(3, 0, 1L << 40), x.cell(3, -1, 0));
        Due.each("cell: PLACE, MUCH", PLACE, x.cell(0, 5, 1L << 40), x.cell(0, -1, Long.MIN_VALUE));
        Due.is("read: BAD, PLACE", x.read(4, -1), NO_AND_BAD);
        Due.is("read: NOTHING, PLACE", x.read(3, -1), NO_AND_NOTHING);
        Due.each("copy: BAD, NOTHING, PLACE", BAD, x.copy(3, 0, 4, 0, -1), x.copy(4, 0, 3, 0, -1), x.copy(4, -1, 0, 0, 0));
        Due.each("copy: NOTHING, KIND, PLACE", NOTHING, x.copy(3, 0, 0, 0, -1), x.copy(1, 13, 3, 0, 0), x.copy(3, 0, 3, 0, -1));
        Due.each("copy: KIND, PLACE", KIND, x.copy(0, 0, 1, 0, -1), x.copy(1, 13, 0, 0, 0), x.copy(0, 0, 2, 1, 6));
        Due.is("check: SIZE, MUCH", x.check(1), SIZE);
    }

    private static void changesNothing() {
        Refused.ints(BAD, Samples::full, x -> x.size(4), x -> x.bend(0, 1, 10), x -> x.push(3, 0), x -> x.tide(41), x -> x.slope(0, 3, 0),
            x -> x.change(0, 3, 0), x -> x.drop(6), x -> x.certify(4), x -> x.sheet(0, 2, 1), x -> x.sheet(0, INTS, 13), x -> x.cell(4, 0, 0),
            x -> x.copy(1, 0, 4, 0, 1), x -> x.line(5, 0, 0), x -> x.pieces(41), x -> x.working(64));
        Refused.ints(FULL, Samples::full, x -> x.line(0, 0, 0));
        Refused.ints(STATE, Samples::furnishedImproper, x -> x.solve(), x -> x.certify(0), x -> x.certify(3), x -> x.pieces(40), x -> x.steps());
        Refused.ints(STATE, Samples::two, x -> x.back());
        Refused.ints(NONE, Samples::furnishedEmpty, x -> x.certify(0), x -> x.certify(3), x -> x.working(3), x -> x.steps());
        Refused.ints(SIZE, Samples::full, x -> x.sheet(0, INTS, -1));
        Refused.ints(MUCH, Samples::full, x -> x.cell(0, 0, 1L << 31));
        Refused.ints(PLACE, Samples::full, x -> x.cell(0, 5, 1), x -> x.copy(1, 0, 1, 11, 2), x -> x.copy(1, 0, 2, 0, 1));
        Refused.ints(NOTHING, Samples::full, x -> x.cell(3, 0, 1), x -> x.copy(1, 0, 3, 0, 0));
        Refused.ints(KIND, Samples::full, x -> x.copy(1, 0, 0, 0, 1));
        LeastInBounds told = furnishedEmpty();
        Due.is("but where told: none is NOTED", told.solve(), NONE);
        Due.is("but where told: one note more", told.notes(), 3);
        Due.is("but where told: it is in the trail", told.trail(0), NONE);
    }

    private static void variables() {
        Due.is("at first", new LeastInBounds().count(0), 2);
        for (int n = 1; n <= 3; n++) {
            LeastInBounds x = new LeastInBounds();
            x.size(n);
            x.push(n - 1, -7);
            fraction("the last", x.answer(0, n - 1, 0), x.answer(0, n - 1, 1), 7, 1);
            fraction("the first", x.nearest(4, 4, 4, 0, 0), x.nearest(4, 4, 4, 0, 1), 4, 1);
            fraction("the last, nearest", x.nearest(4, 4, 4, n - 1, 0), x.nearest(4, 4, 4, n - 1, 1), 4, 1);
            Due.each("behind the last", NO_AND_BAD, x.answer(0, n, 0), x.answer(0, 3, 0), x.nearest(0, 0, 0, n, 0));
            Due.each("before the first", NO_AND_BAD, x.answer(0, -1, 0), x.nearest(0, 0, 0, -1, 0));
        }
    }

    private static void bends() {
        for (int n = 1; n <= 3; n++) {
            LeastInBounds x = new LeastInBounds();
            x.size(n);
            for (int i = 0; i < n; i++) {
                Due.is("alike, at first", x.bend(i, i, 20), 1);
                Due.is("20", x.bend(i, i, 1), 20);
                Due.each("beyond 1 .. 20", BAD, x.bend(i, i, 0), x.bend(i, i, 21));
                for (int j = 0; j < i; j++) {
                    Due.is("unlike, at first", x.bend(i, j, 9), 0);
                    Due.is("9, the other way round", x.bend(j, i, -9), 9);
                    Due.is("-9, the other way round", x.bend(i, j, i + j), -9);
                    Due.each("beyond -9 .. 9", BAD, x.bend(i, j, 10), x.bend(j, i, -10));
                }
            }
            for (int i = 0; i < n; i++) {
                Due.is("it stays", x.bend(i, i, 1), 1);
                for (int j = 0; j < i; j++) {
                    Due.is("each has its own", x.bend(j, i, 0), i + j);
                }
            }
        }
    }

    private static void pushes() {
        for (int n = 1; n <= 3; n++) {
            LeastInBounds x = new LeastInBounds();
            x.size(n);
            for (int i = 0; i < n; i++) {
                Due.is("at first", x.push(i, 99), 0);
                fraction("the most", x.answer(0, i, 0), x.answer(0, i, 1), -99, 1);
                Due.is("99", x.push(i, -99), 99);
                fraction("the least", x.answer(0, i, 0), x.answer(0, i, 1), 99, 1);
                Due.each("beyond", BAD, x.push(i, 100), x.push(i, -100));
                Due.is("-99", x.push(i, 0), -99);
            }
        }
    }

    private static void isProper(int due, int n, int... bends) {
        LeastInBounds x = new LeastInBounds();
        x.size(n);
        int k = 0;
        for (int i = 0; i < n; i++) {
            for (int j = i; j < n; j++) {
                x.bend(i, j, bends[k]);
                k++;
            }
        }
        String told = java.util.Arrays.toString(bends);
        Due.is(told + " is PROPER", x.isProper(), due);
        Due.is(told + " has an answer", x.working(0), due == 1 ? 0 : STATE);
    }

    private static void proper() {
        isProper(1, 1, 1);
        isProper(1, 1, 20);
        // q(0, 0), q(0, 1), q(1, 1): MINOR 2 is 0, 1, -1
        isProper(0, 2, 1, 1, 1);
        isProper(1, 2, 1, 1, 2);
        isProper(0, 2, 2, -3, 4);
        isProper(0, 2, 9, 9, 9);
        isProper(1, 2, 10, 9, 9);
        // q(0, 0), q(0, 1), q(0, 2), q(1, 1), q(1, 2), q(2, 2): MINOR 3 is 0, 1, -1, MINOR 2 above 0
        isProper(0, 3, 1, 0, 1, 1, 0, 1);
        isProper(1, 3, 1, 0, 1, 1, 0, 2);
        isProper(0, 3, 1, 0, 1, 2, 1, 1);
        // MINOR 2 is 0, MINOR 3 0, then below 0; MINOR 2 is -3, MINOR 3 above 0
        isProper(0, 3, 1, 1, 0, 1, 0, 20);
        isProper(0, 3, 1, 1, 0, 1, 1, 20);
        isProper(0, 3, 1, 2, 4, 1, 2, 1);
    }

    private static void tide() {
        LeastInBounds x = new LeastInBounds();
        addLine(x, ON, 1, 2, 1);
        Due.is("at first", x.lineOf(0, 3), 1);
        Due.is("to the most", x.tide(40), 0);
        fraction("at the most", x.answer(1, 0, 0), x.answer(1, 0, 1), 81, 1);
        Due.each("beyond", BAD, x.tide(41), x.tide(-1));
        Due.is("to the least", x.tide(0), 40);
        fraction("at the least", x.answer(1, 0, 0), x.answer(1, 0, 1), 1, 1);
    }

    private static void numbersOfLines() {
        LeastInBounds x = new LeastInBounds();
        for (int l = 0; l < 6; l++) {
            Due.is("no such line yet", x.lineOf(l, 0), BAD);
            Due.is("as they come", x.line(l % 5, 10 * l, 0), l);
        }
        Due.is("the seventh", x.line(0, 0, 0), FULL);
        Due.is("the first", x.lineOf(0, 1), 0);
        Due.is("the sixth", x.lineOf(5, 1), 50);
        Due.each("no such line", BAD, x.lineOf(6, 1), x.lineOf(-1, 1));
        Due.is("all six are a set", x.working(64), BAD);
        Due.is("all six are 63", x.held(63), NONE);
    }

    private static void numbersOfALine() {
        LeastInBounds x = new LeastInBounds();
        x.size(3);
        for (int kind = 0; kind < 5; kind++) {
            Due.is("KIND " + kind, x.line(kind, 0, 0), kind);
            for (int i = 0; i < 3; i++) {
                Due.is("at first", x.slope(kind, i, -9), 0);
                Due.is("-9", x.slope(kind, i, 9), -9);
                Due.each("beyond", BAD, x.slope(kind, i, 10), x.slope(kind, i, -10));
                Due.is("9", x.slope(kind, i, 0), 9);
            }
        }
        Due.each("no such KIND", BAD, x.line(-1, 0, 0), x.line(5, 0, 0), x.change(0, 0, 5), x.change(0, 0, -1));
        for (int i = 0; i < 3; i++) {
            x.slope(4, i, 9);
        }
        x.drop(4);
        x.line(UNDER, 0, 0);
        for (int i = 0; i < 3; i++) {
            Due.is("at first again, where another was", x.slope(4, i, 0), 0);
        }
    }

    /** Whatever a(i) of no variable is, all answers are as if it were 0. */
    private static void slopesThatDoNothing() {
        LeastInBounds x = new LeastInBounds();
        x.size(1);
        addLine(x, UNDER, 4, -1, 2, 9, -9);
        addLine(x, ON, 1, 0, 1, -9, 9);
        addLine(x, OVER, 1, 0, 1, 5, 5);
        fraction("answer", x.answer(7, 0, 0), x.answer(7, 0, 1), 1, 1);
        Due.is("rows are no more independent for it", x.working(7), 2);
        Due.is("held", x.held(7), 7);
        Due.is("tight", x.tight(7), 6);
        fraction("slack", x.slack(7, 0, 0), x.slack(7, 0, 1), 2, 1);
        fraction("reach", x.reach(0), x.reach(1), 2, 1);
        fraction("nearest", x.nearest(3, 3, 3, 0, 0), x.nearest(3, 3, 3, 0, 1), 1, 1);
        fraction("distance", x.distance(3, 3, 3, 0), x.distance(3, 3, 3, 1), 4, 1);
        Due.is("certify", x.certify(0), 5);
        Due.is("check", x.check(0), 0);
        Due.is("steps", x.steps(), 1);
        LeastInBounds y = two();
        y.slope(0, 2, 9);
        y.slope(1, 2, -9);
        fraction("a(2) of two", y.answer(3, 1, 0), y.answer(3, 1, 1), 2, 1);
    }

    private static void basesAndDrifts() {
        LeastInBounds x = new LeastInBounds();
        Due.is("the least", x.line(UNDER, -99, -9), 0);
        Due.is("the most", x.line(UNDER, 99, 9), 1);
        Due.each("beyond", BAD, x.line(UNDER, 100, 0), x.line(UNDER, -100, 0), x.line(UNDER, 0, 10), x.line(UNDER, 0, -10),
            x.change(0, 1, 100), x.change(0, 1, -100), x.change(0, 2, 10), x.change(0, 2, -10));
        Due.is("b of the least", x.change(0, 1, 99), -99);
        Due.is("d of the least", x.change(0, 2, 9), -9);
        Due.is("b of the most", x.change(1, 1, -99), 99);
        Due.is("d of the most", x.change(1, 2, -9), 9);
    }

    private static void rowsAndBounds() {
        int[] most = {459, -459, 459, 459, -460};
        int[] least = {-459, 459, -459, -459, 458};
        int[] rows = {9, -9, 9, 18, -9};
        for (int kind = 0; kind < 5; kind++) {
            LeastInBounds x = new LeastInBounds();
            x.tide(40);
            addLine(x, kind, 99, 9, 9, -9);
            addLine(x, kind, -99, -9, 0, 1);
            Due.is("the greatest e", x.lineOf(0, 3), most[kind]);
            Due.is("the least e", x.lineOf(1, 3), least[kind]);
            Due.is("the greatest a", x.lineOf(0, 4), rows[kind]);
            Due.is("the least a", x.lineOf(0, 5), -rows[kind]);
            Due.is("0", x.lineOf(1, 4), 0);
            Due.is("1", x.lineOf(1, 5), rows[kind] / 9);
        }
    }

    /** Whether lines x(0) of a kind at b and at b + 1 are held by a place x(0) of push / bend. */
    private static void areHeld(int kind, int push, int bend, int b, int due) {
        LeastInBounds x = new LeastInBounds();
        x.size(1);
        x.bend(0, 0, bend);
        x.push(0, -push);
        addLine(x, kind, b, 0, 1);
        addLine(x, kind, b + 1, 0, 1);
        Due.is("KIND " + kind + " at " + b + " by " + push + " / " + bend, x.held(0), due);
    }

    private static void holds() {
        // 5 just meets a bound of 5; 99 / 20 is less by a twentieth, 96 / 19 more by a nineteenth.
        areHeld(UNDER, 5, 1, 4, 2);
        areHeld(UNDER, 99, 20, 4, 2);
        areHeld(UNDER, 96, 19, 5, 2);
        areHeld(OVER, 5, 1, 5, 1);
        areHeld(OVER, 99, 20, 4, 1);
        areHeld(OVER, 96, 19, 5, 1);
        areHeld(ON, 5, 1, 5, 1);
        areHeld(ON, 5, 1, 4, 2);
        areHeld(ON, 99, 20, 4, 0);
        areHeld(ON, 96, 19, 5, 0);
        areHeld(TWICE, 5, 1, 9, 2);
        areHeld(TWICE, 99, 20, 9, 2);
        areHeld(TWICE, 9, 2, 8, 2);
        areHeld(APART, 5, 1, 4, 1);
        areHeld(APART, 99, 20, 3, 1);
        areHeld(APART, 96, 19, 4, 1);
    }
}

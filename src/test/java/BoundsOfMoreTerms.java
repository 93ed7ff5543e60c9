/** Boundary cases of the document's terms: answers, the walk, reach, certificates, the book, sheets. */
final class BoundsOfMoreTerms extends Samples {
    private BoundsOfMoreTerms() {
    }

    static void tell(Sentences told) {
        told.under("Terms");
        told.has("ANSWER of S: the place that HOLDS all LINES of S and has the least WORTH of all that do"
            + " (there is one such, or no place HOLDS them all).", BoundsOfMoreTerms::oneAnswerOrNone);
        told.has("WORKING of S: the least (as a number) set W of LINES of S", BoundsOfMoreTerms::leastAsANumber);
        told.has("whose ROWS are independent", BoundsOfMoreTerms::independentRows);
        told.has("each LINE of W has the sum of g(i) * x(i) just h", BoundsOfMoreTerms::justMet);
        told.has("and y is 0 or more, but of ON as may be.", BoundsOfMoreTerms::weightsOfZero);
        told.has("(There is one such if there is ANSWER.)", BoundsOfMoreTerms::workingIfAnswer);
        told.has("WEIGHT of a LINE that isn't of it is 0.", BoundsOfMoreTerms::weightOfOthers);
        told.has("SLACK of a LINE: h less the sum of g(i) * x(i).", BoundsOfMoreTerms::slackAboveAndBelow);
        told.has("WALK: W 0 is the empty set", BoundsOfMoreTerms::walkBegins);
        told.has("behind W k, as long as there is a LINE (of all) that ANSWER of W k doesn't HOLD: with l the least such one",
            BoundsOfMoreTerms::walkByTheLeast);
        told.has("have these no ANSWER, the WALK ends so.", BoundsOfMoreTerms::walkEndsWithoutAnswer);
        told.has("REACH: by how much more (a FRACTION, 0 or more) T could be at the most", BoundsOfMoreTerms::reachAtTheMost);
        told.has("would HOLD all LINES, and each WEIGHT be 0 or more, but of ON.", BoundsOfMoreTerms::reachOfWeights);
        told.has("c(i) less than 0 by P(i)", BoundsOfMoreTerms::nearestAtEnds);
        told.has("CERTIFICATE: longs X(0) .. X(n - 1), Y(0) .. Y(m - 1) (m: how many LINES), D, in this order,"
            + " each -1000000000000 .. 1000000000000", BoundsOfMoreTerms::certificateAtEnds);
        told.has("(1) D is 1 or more", BoundsOfMoreTerms::first);
        told.has("(2) for each i the sum of q(i, j) * X(j), c(i) * D and all Y * g(i) together are 0", BoundsOfMoreTerms::second);
        told.has("(3) Y of each LINE that isn't ON is 0 or more", BoundsOfMoreTerms::third);
        told.has("(4) each LINE is HELD by X / D", BoundsOfMoreTerms::fourth);
        told.has("(5) Y is 0 for each LINE whose SLACK by X / D isn't.", BoundsOfMoreTerms::fifth);
        told.has("who is made last begins it anew.", BoundsOfMoreTerms::bookOfTheLast);
        told.has("What solve() answers (if it isn't refused by STATE) is NOTED: NOTES are 1 more", BoundsOfMoreTerms::noted);
        told.has("MARK (a long) becomes MARK * 31, and what was answered", BoundsOfMoreTerms::markWrapsAround);
        told.has("TRAIL is what was answered in the last 8 of them, the last first", BoundsOfMoreTerms::lastEight);
        told.has("LEAST is the least WORTH of all ANSWERS NOTED (NONE is none).", BoundsOfMoreTerms::leastOfNoted);
        told.has("SHEETS 0 .. 3 are rows of 0 to 12 numbers", BoundsOfMoreTerms::sheetsAtEnds);
        told.has("of sort 0 ints, 1 longs, or missing (-1; at first).", BoundsOfMoreTerms::sortsOfSheets);
        told.has("AN IMAGE keeps n, BENDS, PUSHES, LINES, T.", BoundsOfMoreTerms::imageKeepsNoMore);
    }

    /** One variable, least at 0, with lines by kind and b in turn, all of x(0) itself. */
    private static LeastInBounds along(int... kindsAndBases) {
        LeastInBounds x = new LeastInBounds();
        x.size(1);
        for (int k = 0; k < kindsAndBases.length; k += 2) {
            addLine(x, kindsAndBases[k], kindsAndBases[k + 1], 0, 1);
        }
        return x;
    }

    private static int ofAll(LeastInBounds x) {
        return x.working((1 << x.count(1)) - 1);
    }

    private static void oneAnswerOrNone() {
        Due.is("no lines", ofAll(along()), 0);
        fraction("one place is left", along(UNDER, 1, OVER, 1).answer(3, 0, 0), along(UNDER, 1, OVER, 1).answer(3, 0, 1), 1, 1);
        Due.each("one place is left", 2, ofAll(along(UNDER, 1, OVER, 1)), ofAll(along(UNDER, 2, APART, 1)), ofAll(along(TWICE, 2, OVER, 1)));
        Due.each("none is left", NONE, ofAll(along(UNDER, 1, OVER, 2)), ofAll(along(UNDER, 1, APART, 1)), ofAll(along(TWICE, 1, OVER, 1)),
            ofAll(along(ON, 1, ON, 2)), ofAll(along(ON, 1, UNDER, 0)), ofAll(along(ON, 1, OVER, 2)));
        // No slope at all: 0 under, over, on, twice, apart from b.
        int[] holding = {0, 0, 0, 0, -1};
        int[] not = {-1, 1, 1, -1, 0};
        for (int kind = 0; kind < 5; kind++) {
            LeastInBounds x = new LeastInBounds();
            x.line(kind, holding[kind], 0);
            Due.is("a line without slopes that all places hold, KIND " + kind, x.working(1), 0);
            x.change(0, 1, not[kind]);
            Due.is("one that no place holds, KIND " + kind, x.working(1), NONE);
        }
        LeastInBounds y = new LeastInBounds();
        addLine(y, OVER, 1, 0, 1, 0);
        addLine(y, OVER, 1, 0, 0, 1);
        addLine(y, UNDER, 2, 0, 1, 1);
        Due.is("one corner is left", y.held(7), 7);
        y.change(2, 1, 1);
        Due.is("none is left", y.held(7), NONE);
    }

    private static void leastAsANumber() {
        LeastInBounds x = new LeastInBounds();
        x.push(0, -4);
        addLine(x, UNDER, 3, 0, 1, 1);
        addLine(x, UNDER, 3, 0, 1, -1);
        addLine(x, UNDER, 3, 0, 1, 0);
        addLine(x, TWICE, 6, 0, 1, 0);
        Due.is("two lines, but 3 is less than 4", x.working(15), 3);
        Due.is("of line 2, 3 the lesser", x.working(14), 4);
        Due.is("of S alone", x.working(8), 8);
        Due.is("the same line twice", ofAll(along(OVER, 1, OVER, 1)), 1);
        Due.is("six times", ofAll(along(OVER, 1, OVER, 1, OVER, 1, OVER, 1, OVER, 1, OVER, 1)), 1);
    }

    private static void independentRows() {
        LeastInBounds x = new LeastInBounds();
        x.size(3);
        for (int l = 0; l < 6; l++) {
            addLine(x, ON, l < 3 ? 1 : l == 3 ? 3 : 2, 0, l == 0 || l > 2 ? 1 : 0, l == 1 || l == 3 || l == 4 ? 1 : 0, l == 2 || l == 3 || l == 5 ? 1 : 0);
        }
        // x0 = 1, x1 = 1, x2 = 1, x0 + x1 + x2 = 3, x0 + x1 = 2, x0 + x2 = 2
        Due.is("as many as variables at the most", x.working(63), 7);
        Due.is("line 4 is 0 and 1 together", x.working(19), 3);
        Due.is("of 3, 4, 5", x.working(56), 8);
        Due.is("of 0, 1, 5", x.working(35), 34);
        x.push(0, 1);
        Due.is("of 0, 1, 5, all three", x.working(35), 35);
        LeastInBounds y = new LeastInBounds();
        y.line(ON, 0, 0);
        addLine(y, ON, 1, 0, 1);
        Due.is("a row without slopes is of none", y.working(3), 2);
        Due.is("one of one variable", ofAll(along(ON, 1, ON, 1, ON, 1)), 1);
    }

    private static void justMet() {
        LeastInBounds x = along(OVER, 2, OVER, 3);
        Due.is("line 0 isn't just met", x.working(3), 2);
        x.change(0, 1, 3);
        Due.is("line 0 just is", x.working(3), 1);
        x.change(0, 1, 4);
        Due.is("line 0 alone is", x.working(3), 1);
        Due.is("line 1 has slack", x.tight(3), 1);
    }

    private static void weightsOfZero() {
        Due.is("just met without weight, under", ofAll(along(UNDER, 0)), 0);
        Due.is("just met without weight, over", ofAll(along(OVER, 0)), 0);
        Due.is("just met without weight, on", ofAll(along(ON, 0)), 0);
        Due.is("a weight above 0", ofAll(along(UNDER, -1)), 1);
        Due.is("it would be below 0", ofAll(along(UNDER, 1)), 0);
        Due.is("ON above 0", ofAll(along(ON, -1)), 1);
        fraction("ON above 0", along(ON, -1).weight(1, 0, 0), along(ON, -1).weight(1, 0, 1), 1, 1);
        Due.is("ON below 0", ofAll(along(ON, 1)), 1);
        fraction("ON below 0", along(ON, 1).weight(1, 0, 0), along(ON, 1).weight(1, 0, 1), -1, 1);
        LeastInBounds x = new LeastInBounds();
        addLine(x, OVER, 1, 0, 1, 0);
        addLine(x, OVER, 0, 0, 1, 1);
        addLine(x, OVER, 1, 0, 1, 1);
        // At (1, 0) line 2 is just met, too, without weight.
        Due.is("one of two weighs nothing", x.working(7), 1);
        Due.is("though it is tight", x.tight(7), 5);
    }

    private static void workingIfAnswer() {
        LeastInBounds x = new LeastInBounds();
        x.size(3);
        int[][] rows = {{1, 1, 0}, {1, 0, 1}, {0, 1, 1}, {2, 1, 1}, {1, 1, 1}, {-1, -1, 0}};
        for (int l = 0; l < 6; l++) {
            addLine(x, l == 5 ? UNDER : OVER, l == 5 ? -2 : rows[l][0] + rows[l][1] + rows[l][2], 0, rows[l]);
        }
        // All go through (1, 1, 1), with many sets of rows that depend on one another.
        for (int set = 0; set < 64; set++) {
            int w = x.working(set);
            Due.isTrue("there is one of " + set, w >= 0 && (w & ~set) == 0);
        }
        x.change(5, 0, ON);
        x.change(5, 1, 1);
        for (int set = 0; set < 64; set++) {
            // x0 + x1 is -1 then, which lines 0 and 5 don't leave.
            boolean none = (set & 33) == 33;
            Due.is("NONE of " + set, x.working(set) == NONE ? 1 : 0, none ? 1 : 0);
            Due.is("no ANSWER of " + set, x.answer(set, 0, 0) == LeastInBounds.NO + NONE ? 1 : 0, none ? 1 : 0);
        }
    }

    private static void weightOfOthers() {
        LeastInBounds x = two();
        addLine(x, UNDER, 9, 0, 1, 1);
        addLine(x, OVER, 3, 0, 1, 0);
        fraction("with slack", x.weight(15, 2, 0), x.weight(15, 2, 1), 0, 1);
        fraction("just met, but line 1 is less", x.weight(15, 3, 0), x.weight(15, 3, 1), 0, 1);
        fraction("of it", x.weight(15, 1, 0), x.weight(15, 1, 1), 2, 1);
        fraction("of it, where line 1 isn't of the set", x.weight(13, 3, 0), x.weight(13, 3, 1), 2, 1);
    }

    private static void slackAboveAndBelow() {
        LeastInBounds x = along(UNDER, 1, UNDER, 0, UNDER, -1, OVER, -1, OVER, 0, OVER, 1);
        int[] due = {1, 0, -1, 1, 0, -1};
        for (int l = 0; l < 6; l++) {
            fraction("line " + l, x.slack(0, l, 0), x.slack(0, l, 1), due[l], 1);
        }
        x.tide(40);
        x.change(0, 1, 99);
        x.change(0, 2, 9);
        x.change(1, 1, -99);
        x.change(1, 2, -9);
        x.push(0, 99);
        fraction("a bound far above", x.slack(0, 0, 0), x.slack(0, 0, 1), 558, 1);
        fraction("a bound far below", x.slack(0, 1, 0), x.slack(0, 1, 1), -360, 1);
    }

    private static void walkBegins() {
        Due.is("no lines", new LeastInBounds().walk(0), 0);
        Due.is("lines", two().walk(0), 0);
        Due.is("no answer", empty().walk(0), 0);
        Due.is("nothing behind it", new LeastInBounds().walk(1), PLACE);
    }

    private static void walkByTheLeast() {
        LeastInBounds x = along(UNDER, 5, OVER, 1, OVER, 3, OVER, 2);
        // At 0 lines 1, 2, 3 don't hold; at 1 lines 2, 3; at 3 all do.
        Due.is("the least that doesn't hold", x.walk(1), 2);
        Due.is("then the least again", x.walk(2), 4);
        Due.is("all hold", x.walk(3), PLACE);
        Due.is("two steps", x.steps(), 2);
        x.change(2, 1, 1);
        Due.is("just met is held", x.walk(2), 8);
        x.push(0, -5);
        Due.is("all hold, one just", x.steps(), 0);
        x.push(0, -6);
        Due.is("one doesn't, by the other way", x.walk(1), 1);
        LeastInBounds y = two();
        Due.is("with W k together", y.walk(2), 3);
    }

    private static void walkEndsWithoutAnswer() {
        LeastInBounds x = along(OVER, 1, UNDER, 0);
        Due.is("no steps", x.steps(), NONE);
        Due.is("W 0", x.walk(0), 0);
        Due.is("W 1", x.walk(1), 1);
        Due.is("no W 2", x.walk(2), PLACE);
        LeastInBounds y = new LeastInBounds();
        y.line(ON, 1, 0);
        Due.is("at once", y.steps(), NONE);
        Due.is("W 0 alone", y.walk(0), 0);
        Due.is("no W 1", y.walk(1), PLACE);
        x.change(1, 1, 1);
        Due.is("one place is left", x.steps(), 1);
    }

    private static void reachAtTheMost() {
        LeastInBounds x = along(UNDER, 99);
        x.change(0, 2, -1);
        fraction("from 0", x.reach(0), x.reach(1), 99, 1);
        x.tide(40);
        fraction("from the most, and on behind it", x.reach(0), x.reach(1), 59, 1);
        x.change(0, 1, 40);
        fraction("just met", x.reach(0), x.reach(1), 0, 1);
        x.change(0, 1, 41);
        fraction("one off", x.reach(0), x.reach(1), 1, 1);
        x.change(0, 2, -9);
        x.tide(4);
        fraction("less than 1", x.reach(0), x.reach(1), 5, 9);
        x.change(0, 2, 9);
        Due.refused("without end", x.reach(0), NONE);
        x.change(0, 2, 0);
        Due.refused("it doesn't move", x.reach(0), NONE);
        for (int b = 0; b < 6; b++) {
            for (int d = 1; d < 6; d++) {
                reachOfTwo(b, d);
            }
        }
    }

    /** Of two lines that come nearer, the one that is met first tells the reach. */
    private static void reachOfTwo(int b, int d) {
        for (int otherB = 0; otherB < 6; otherB++) {
            for (int otherD = 1; otherD < 6; otherD++) {
                LeastInBounds x = along(UNDER, b, OVER, -otherB);
                x.change(0, 2, -d);
                x.change(1, 2, otherD);
                boolean first = b * otherD < otherB * d;
                Fraction due = first ? Fraction.of(b).over(Fraction.of(d)) : Fraction.of(otherB).over(Fraction.of(otherD));
                fraction("the first of " + b + " / " + d + ", " + otherB + " / " + otherD, x.reach(0), x.reach(1), due.part(0), due.part(1));
            }
        }
    }

    private static void reachOfWeights() {
        LeastInBounds x = along(UNDER, -10);
        x.change(0, 2, 3);
        fraction("till its weight is 0", x.reach(0), x.reach(1), 10, 3);
        x.change(0, 0, ON);
        Due.refused("ON may be below 0", x.reach(0), NONE);
        addLine(x, UNDER, 20, 0, 1);
        fraction("till another holds no more", x.reach(0), x.reach(1), 10, 1);
        x.change(1, 0, ON);
        x.change(1, 1, -10);
        x.change(1, 2, 3);
        Due.refused("ON together", x.reach(0), NONE);
        x.change(1, 2, 4);
        fraction("ON, and off at once", x.reach(0), x.reach(1), 0, 1);
        x.change(1, 2, 2);
        fraction("ON, and off at once the other way", x.reach(0), x.reach(1), 0, 1);
    }

    private static void nearestAtEnds() {
        LeastInBounds x = new LeastInBounds();
        x.size(3);
        int[] ends = {-99, 0, 99};
        for (int p : ends) {
            for (int i = 0; i < 3; i++) {
                fraction("itself", x.nearest(p, p, p, i, 0), x.nearest(p, p, p, i, 1), p, 1);
            }
            fraction("how far", x.distance(p, p, p, 0), x.distance(p, p, p, 1), 0, 1);
        }
        for (int i = 0; i < 3; i++) {
            addLine(x, ON, -99, -9, i == 0 ? 1 : 0, i == 1 ? 1 : 0, i == 2 ? 1 : 0);
        }
        x.tide(40);
        fraction("as far as it may be", x.distance(99, 99, 99, 0), x.distance(99, 99, 99, 1), 3 * 558 * 558, 1);
    }

    private static void checked(String what, LeastInBounds x, int due, long... numbers) {
        fill(x, 0, numbers);
        Due.is(what, x.check(0), due);
    }

    private static void certificateAtEnds() {
        LeastInBounds x = full();
        for (int k = 0; k < 10; k++) {
            x.sheet(3, LONGS, 10);
            x.cell(3, 9, 1);
            x.cell(3, k, FAR);
            Due.isTrue("the most at " + k, x.check(3) >= 0);
            x.cell(3, k, -FAR);
            Due.isTrue("the least at " + k, x.check(3) >= 0);
            x.cell(3, k, FAR + 1);
            Due.is("more at " + k, x.check(3), MUCH);
            x.cell(3, k, -FAR - 1);
            Due.is("less at " + k, x.check(3), MUCH);
        }
        LeastInBounds y = two();
        y.change(0, 0, ON);
        y.change(0, 1, 9);
        // (3, 4) less by 1 each is 7: ON 9 is met at (4, 5), with weight -1; line 1 has slack.
        checked("in this order", y, 0, 4, 5, -1, 0, 1);
        checked("X in another order", y, 2, 5, 4, -1, 0, 1);
        checked("Y in another order", y, 2, 4, 5, 0, -1, 1);
        checked("D last", y, 1, 1, 4, 5, -1, 0);
        LeastInBounds z = new LeastInBounds();
        z.size(1);
        checked("the shortest", z, 0, 0, 1);
    }

    private static void first() {
        LeastInBounds x = along(UNDER, 1);
        checked("0", x, 1, 0, 0, 0);
        checked("-1", x, 1, 0, 0, -1);
        checked("as far below as may be", x, 1, 0, 0, -FAR);
        checked("1", x, 0, 0, 0, 1);
        checked("as far above as may be", x, 0, 0, 0, FAR);
        checked("0, and all else is wrong too", x, 1, 7, -7, 0);
    }

    private static void second() {
        LeastInBounds x = new LeastInBounds();
        x.size(3);
        x.bend(0, 2, -1);
        x.bend(2, 2, 5);
        x.push(1, 2);
        addLine(x, ON, 0, 0, 1, 1, 1);
        // x0 - x2 + y, x1 + 2 + y, -x0 + 5 x2 + y are 0 for (1, -4 / 3, 1 / 3) and -2 / 3.
        checked("all are 0", x, 0, 3, -4, 1, -2, 3);
        checked("tripled", x, 0, 9, -12, 3, -6, 9);
        for (int k = 0; k < 5; k++) {
            for (int off = -1; off <= 1; off += 2) {
                long[] numbers = {9, -12, 3, -6, 9};
                numbers[k] += off;
                checked("number " + k + " off by " + off, x, 2, numbers);
            }
        }
        checked("far from 0", x, 2, FAR, FAR, FAR, FAR, FAR);
        checked("far from 0, the other way", x, 2, -FAR, -FAR, -FAR, -FAR, FAR);
    }

    private static void third() {
        // x under 9, least at 0: X and Y together are 0.
        LeastInBounds x = along(UNDER, 9);
        checked("0", x, 0, 0, 0, 1);
        checked("below 0", x, 3, 1, -1, 1);
        checked("just below 0", x, 3, 1, -1, FAR);
        checked("below 0, and not held", x, 3, 10, -10, 1);
        for (int kind : new int[] {OVER, TWICE, APART}) {
            LeastInBounds y = along(kind, kind == TWICE ? 9 : -9);
            long g = y.lineOf(0, 4);
            checked("below 0, KIND " + kind, y, 3, g, -1, 1);
        }
        LeastInBounds z = along(ON, 1);
        checked("ON below 0", z, 0, 1, -1, 1);
        z.change(0, 1, -1);
        checked("ON above 0", z, 0, -1, 1, 1);
    }

    private static void fourth() {
        LeastInBounds x = along(UNDER, 1);
        x.push(0, -2);
        long d = FAR / 2;
        checked("just held", x, 0, d, d, d);
        checked("more by the least that can be told", x, 4, d + 1, d - 1, d);
        x.change(0, 0, OVER);
        x.push(0, 0);
        checked("just held from above", x, 0, d, d, d);
        checked("less by the least that can be told", x, 4, d - 1, d - 1, d);
        x.change(0, 0, ON);
        checked("just on", x, 0, d, -d, d);
        checked("more", x, 4, d + 1, -d - 1, d);
        checked("less", x, 4, d - 1, 1 - d, d);
    }

    private static void fifth() {
        LeastInBounds x = along(UNDER, 1);
        x.push(0, -2);
        long d = FAR / 2;
        checked("slack, the least that can be told", x, 5, d - 1, d + 1, d);
        checked("a weight where there is no slack", x, 0, d, d, d);
        x.push(0, -1);
        checked("neither weight nor slack", x, 0, 1, 0, 1);
        x.push(0, 0);
        checked("slack without weight", x, 0, 0, 0, 1);
        checked("slack, the least weight", x, 5, -1, 1, d);
        x.push(0, -2);
        addLine(x, UNDER, 1, 0, 1);
        checked("two without slack", x, 0, 4, 1, 3, 4);
        x.change(1, 1, 2);
        checked("the last has slack", x, 5, 4, 1, 3, 4);
    }

    private static void bookOfTheLast() {
        LeastInBounds first = two();
        first.solve();
        LeastInBounds last = along(OVER, 1);
        Due.is("NOTES", last.notes(), 0);
        Due.is("MARK", last.mark(), 0);
        Due.is("TRAIL", last.trail(0), PLACE);
        Due.refused("LEAST", last.least(0), NONE);
        last.solve();
        Due.is("its first note", last.notes(), 1);
        Due.is("its mark", last.mark(), 1);
        fraction("its least", last.least(0), last.least(1), 1, 2);
    }

    private static void noted() {
        LeastInBounds x = two();
        Due.is("an answer", x.solve(), 3);
        Due.is("1 more", x.notes(), 1);
        x.bend(0, 1, 1);
        Due.is("refused by STATE", x.solve(), STATE);
        Due.is("no more", x.notes(), 1);
        Due.is("no mark of it", x.mark(), 3);
        Due.is("no trail of it", x.trail(1), PLACE);
        x.bend(0, 1, 0);
        x.change(0, 1, -99);
        x.change(1, 1, 99);
        addLine(x, OVER, 99, 0, 0, 1);
        Due.is("no answer", x.solve(), NONE);
        Due.is("that is 1 more", x.notes(), 2);
        Due.is("the mark of it", x.mark(), 3 * 31 - 1);
        Due.is("the trail of it", x.trail(0), NONE);
    }

    private static void markWrapsAround() {
        LeastInBounds x = along(ON, 1, ON, 1);
        x.drop(0);
        java.math.BigInteger due = java.math.BigInteger.ZERO;
        boolean above = false;
        boolean below = false;
        for (int k = 0; k < 100; k++) {
            x.solve();
            due = due.multiply(java.math.BigInteger.valueOf(31)).add(java.math.BigInteger.ONE);
            Due.is("MARK " + k, x.mark(), due.longValue());
            above |= x.mark() > 0;
            below |= x.mark() < 0;
        }
        Due.isTrue("more than a long, and wrapped to both sides", due.bitLength() > 64 && above && below);
        LeastInBounds y = empty();
        for (int k = 0; k < 14; k++) {
            y.solve();
        }
        // -(31 ^ 14 - 1) / 30 is beyond the least long: by 2 ^ 64 it is told so.
        java.math.BigInteger none = java.math.BigInteger.valueOf(31).pow(14).subtract(java.math.BigInteger.ONE).divide(java.math.BigInteger.valueOf(-30));
        Due.is("MARK of none", y.mark(), none.longValue());
    }

    private static void lastEight() {
        LeastInBounds x = along(OVER, 1, OVER, 2, OVER, 3, OVER, 4, OVER, 5, OVER, 6);
        int[] answers = new int[10];
        for (int k = 0; k < 10; k++) {
            answers[k] = k == 6 ? NONE : k < 6 ? 32 >> k : 0;
            if (k == 6) {
                x.line(ON, 1, 0);
            }
            Due.is("solve", x.solve(), answers[k]);
            for (int back = 0; back < 8; back++) {
                Due.is("the last but " + back + " of " + (k + 1), x.trail(back), back > k ? PLACE : answers[k - back]);
            }
            Due.is("no ninth", x.trail(8), PLACE);
            x.drop(0);
        }
    }

    private static void leastOfNoted() {
        LeastInBounds x = empty();
        Due.refused("nothing noted", x.least(0), NONE);
        x.solve();
        Due.refused("NONE is none", x.least(0), NONE);
        Due.refused("NONE is none, below", x.least(1), NONE);
        x.drop(0);
        x.solve();
        fraction("an answer above 0", x.least(0), x.least(1), 2, 1);
        x.change(0, 1, 3);
        x.solve();
        fraction("a greater one", x.least(0), x.least(1), 2, 1);
        x.line(ON, 1, 0);
        x.solve();
        fraction("NONE behind it", x.least(0), x.least(1), 2, 1);
        x.drop(1);
        x.change(0, 1, 0);
        x.solve();
        fraction("0", x.least(0), x.least(1), 0, 1);
        x.push(1, 1);
        x.solve();
        fraction("one below 0", x.least(0), x.least(1), -1, 2);
        x.bend(1, 1, 20);
        x.solve();
        fraction("one a little greater", x.least(0), x.least(1), -1, 2);
        leastOfCloseFractions();
        leastOfLongFractions();
    }

    /** LEAST of two answers is the lesser worth, told by numbers without a limit. */
    private static void leastIsTheLesser(LeastInBounds first, LeastInBounds second) {
        int all = (1 << first.count(1)) - 1;
        Fraction one = new Fraction(java.math.BigInteger.valueOf(first.worth(all, 0)), java.math.BigInteger.valueOf(first.worth(all, 1)));
        Fraction other = new Fraction(java.math.BigInteger.valueOf(second.worth(all, 0)), java.math.BigInteger.valueOf(second.worth(all, 1)));
        Fraction lesser = one.compareTo(other) < 0 ? one : other;
        first.solve();
        for (int l = 0; l < first.count(1); l++) {
            first.change(l, 1, second.lineOf(l, 1));
        }
        first.bend(0, 0, second.bend(0, 0, 1));
        first.push(0, second.push(0, 1));
        first.solve();
        fraction("the lesser of two", first.least(0), first.least(1), lesser.part(0), lesser.part(1));
    }

    private static LeastInBounds ofOne(int bend, int push) {
        LeastInBounds x = along();
        x.bend(0, 0, bend);
        x.push(0, push);
        return x;
    }

    private static void leastOfCloseFractions() {
        for (int bend = 1; bend <= 20; bend++) {
            for (int other = 1; other <= 20; other++) {
                leastIsTheLesser(ofOne(bend, 3), ofOne(other, 3));
                leastIsTheLesser(ofOne(bend, 3), ofOne(other, 4));
            }
        }
    }

    /** Three lines far off, that all weigh: the worth is about 1e12 / 5e7. */
    private static LeastInBounds farOff(int[] bases) {
        LeastInBounds x = new LeastInBounds();
        x.size(3);
        int[][] bends = {{20, 1, -2}, {1, 19, 1}, {-2, 1, 20}};
        int[] pushes = {99, -98, 97};
        int[][] slopes = {{9, -8, 9}, {8, 9, -9}, {-9, 9, 7}};
        for (int i = 0; i < 3; i++) {
            x.push(i, pushes[i]);
            for (int j = i; j < 3; j++) {
                x.bend(i, j, bends[i][j]);
            }
            addLine(x, TWICE, -bases[i], -9, slopes[i]);
        }
        x.tide(40);
        return x;
    }

    private static void leastOfLongFractions() {
        int[][] bases = {{81, 95, 16}, {41, 71, 71}, {92, 10, 8}, {25, 21, 52}, {39, 99, 37}, {75, 89, 17}, {0, 0, 0}, {99, 99, 99}, {0, 99, 0}};
        for (int[] one : bases) {
            Due.is("all three weigh", farOff(one).working(7), 7);
            for (int[] other : bases) {
                leastIsTheLesser(farOff(one), farOff(other));
            }
        }
    }

    private static void sheetsAtEnds() {
        LeastInBounds x = new LeastInBounds();
        for (int s = 0; s <= 3; s++) {
            for (int sort = 0; sort <= 1; sort++) {
                Due.is("the longest", x.sheet(s, sort, 12), 1);
                Due.is("its last place", x.cell(s, 11, s + 1), 1);
                Due.is("no more places", x.cell(s, 12, 0), PLACE);
                Due.is("a longer one", x.sheet(s, sort, 13), BAD);
                Due.is("it is as it was", x.read(s, 11), s + 1);
                Due.is("the shortest", x.sheet(s, sort, 0), 1);
                Due.is("no places", x.cell(s, 0, 0), PLACE);
                Due.is("a shorter one", x.sheet(s, sort, -1), SIZE);
            }
        }
        Due.each("no such sheet", BAD, x.sheet(4, INTS, 1), x.sheet(-1, INTS, 1));
    }

    private static void sortsOfSheets() {
        LeastInBounds x = new LeastInBounds();
        for (int s = 0; s <= 3; s++) {
            Due.is("missing at first", x.cell(s, 0, 0), NOTHING);
            x.sheet(s, INTS, 1);
            Due.is("ints", x.cell(s, 0, 1L << 31), MUCH);
            x.sheet(s, LONGS, 1);
            Due.is("longs", x.cell(s, 0, 1L << 31), 1);
            x.sheet(s, MISSING, 1);
            Due.is("missing", x.cell(s, 0, 0), NOTHING);
            Due.each("no such sort", BAD, x.sheet(s, -2, 1), x.sheet(s, 2, 1));
        }
    }

    private static void imageKeepsNoMore() {
        LeastInBounds x = full();
        x.image();
        x.sheet(0, LONGS, 2);
        x.cell(0, 1, 1L << 40);
        x.size(1);
        for (int l = 0; l < 6; l++) {
            addLine(x, UNDER, 0, 0, 0, 0, 0);
        }
        x.solve();
        int notes = x.notes();
        long mark = x.mark();
        Due.is("back", x.back(), 6);
        Due.is("not the book", x.notes(), notes);
        Due.is("nor its mark", x.mark(), mark);
        sheetIs("nor sheets", x, 0, 0, 1L << 40);
        LeastInBounds y = full();
        y.image();
        Due.isTrue("all of n, BENDS, PUSHES, LINES, T", bowlOf(x).equals(bowlOf(y)));
    }

    /** What is shown of the bowl of now and of the image. */
    private static String bowlOf(LeastInBounds x) {
        String shown = Shown.of(x);
        return shown.substring(shown.indexOf("\nnow:"));
    }
}

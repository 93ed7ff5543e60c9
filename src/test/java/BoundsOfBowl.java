/** Boundary cases of promises 1 to 12: the bowl, lines. */
final class BoundsOfBowl extends Samples {
    private BoundsOfBowl() {
    }

    static void tell(Sentences told) {
        told.under("Promise 1: A new object");
        told.has("n is 2, no LINES", BoundsOfBowl::isNew);
        told.has("THE BOOK begins anew: NOTES 0, MARK 0, TRAIL and LEAST none.", BoundsOfBowl::hasNewBook);
        told.under("Promise 2: size");
        told.has("There are n VARIABLES; BENDS, PUSHES, T are as at first, and there are no LINES: what n was.", BoundsOfBowl::sizeWipes);
        told.has("BAD.", BoundsOfBowl::badSize);
        told.under("Promise 3: bend");
        told.has("BAD: i, j (below n), v.", BoundsOfBowl::badBend);
        told.under("Promise 4: push");
        told.has("BAD.", BoundsOfBowl::badPush);
        told.under("Promise 5: tide");
        told.has("BAD.", BoundsOfBowl::badTide);
        told.under("Promise 6: line");
        told.has("One more LINE: its number.", BoundsOfBowl::firstToLastLine);
        told.has("BAD", BoundsOfBowl::badLine);
        told.has("FULL.", BoundsOfBowl::fullOfLines);
        told.under("Promise 7: slope");
        told.has("a(i) (i 0 .. 2) becomes v: what it was.", BoundsOfBowl::slopesOfNoVariable);
        told.has("BAD.", BoundsOfBowl::badSlope);
        told.under("Promise 8: change");
        told.has("KIND (what 0), b (1), d (2) becomes v: what it was.", BoundsOfBowl::changeToEnds);
        told.has("BAD.", BoundsOfBowl::badChange);
        told.under("Promise 9: drop");
        told.has("A LINE is no more, those of greater numbers have one less: how many there are.", BoundsOfBowl::dropAtEnds);
        told.has("BAD.", BoundsOfBowl::badDrop);
        told.under("Promise 10: lineOf");
        told.has("what 0 KIND, 1 b, 2 d, 3 BOUND h of now, 4 .. 6 ROW g(what - 4)", BoundsOfBowl::firstToLastOfLine);
        told.has("(0, if there is no such VARIABLE)", BoundsOfBowl::rowOfNoVariable);
        told.has("BAD.", BoundsOfBowl::badLineOf);
        told.under("Promise 11: minor");
        told.has("MINOR k (1 .. n).", BoundsOfBowl::minorsAtEnds);
        told.has("BAD.", BoundsOfBowl::badMinor);
        told.under("Promise 12: isProper");
        told.has("1, 0.", BoundsOfBowl::properOrNot);
    }

    private static void isNew() {
        LeastInBounds x = new LeastInBounds();
        Due.is("VARIABLES", x.count(0), 2);
        Due.is("x(1) is there", x.push(1, 0), 0);
        Due.is("x(2) isn't", x.push(2, 0), BAD);
        Due.is("LINES", x.count(1), 0);
        Due.is("no line 0", x.lineOf(0, 0), BAD);
        Due.is("the empty set", x.working(0), 0);
        Due.is("the set of line 0", x.working(1), BAD);
        Due.is("nothing held", x.held(0), 0);
        Due.is("nothing tight", x.tight(0), 0);
        Due.is("ON", x.count(3), 0);
    }

    private static void hasNewBook() {
        LeastInBounds old = two();
        for (int k = 0; k < 9; k++) {
            old.solve();
        }
        LeastInBounds x = new LeastInBounds();
        Due.is("NOTES", x.notes(), 0);
        Due.is("MARK", x.mark(), 0);
        for (int k = 0; k < 8; k++) {
            Due.is("TRAIL " + k, x.trail(k), PLACE);
        }
        Due.refused("LEAST", x.least(0), NONE);
        Due.refused("LEAST, below", x.least(1), NONE);
    }

    private static void sizeWipes() {
        for (int from = 1; from <= 3; from++) {
            for (int to = 1; to <= 3; to++) {
                LeastInBounds x = full();
                x.back();
                x.size(from);
                for (int i = 0; i < from; i++) {
                    x.push(i, 99);
                    for (int j = i; j < from; j++) {
                        x.bend(i, j, 9);
                    }
                }
                x.tide(40);
                addLine(x, APART, -99, 9, 9, 9, 9);
                Due.is("what n was", x.size(to), from);
                isAsAtFirst(x, to);
            }
        }
    }

    private static void isAsAtFirst(LeastInBounds x, int n) {
        Due.is("VARIABLES", x.count(0), n);
        Due.is("LINES", x.count(1), 0);
        Due.is("T", x.count(2), 0);
        for (int i = 0; i < n; i++) {
            Due.is("c(" + i + ")", x.push(i, 0), 0);
            for (int j = 0; j < n; j++) {
                Due.is("q(" + i + ", " + j + ")", x.bend(i, j, i == j ? 1 : 0), i == j ? 1 : 0);
            }
        }
        x.line(UNDER, 0, 0);
        for (int i = 0; i < 3; i++) {
            Due.is("a(" + i + ") of a new line", x.slope(0, i, 0), 0);
        }
    }

    private static void badSize() {
        Refused.ints(BAD, Samples::full, x -> x.size(0), x -> x.size(4), x -> x.size(-1), x -> x.size(LEAST_INT), x -> x.size(MOST_INT));
        Due.is("the least", new LeastInBounds().size(1), 2);
        Due.is("the most", new LeastInBounds().size(3), 2);
    }

    private static void badBend() {
        for (int n = 1; n <= 3; n++) {
            int size = n;
            Refused.ints(BAD, () -> furnishedOfSize(size),
                x -> x.bend(size, 0, 1), x -> x.bend(0, size, 1), x -> x.bend(size, size, 1), x -> x.bend(3, 3, 1),
                x -> x.bend(-1, 0, 1), x -> x.bend(0, -1, 1), x -> x.bend(-1, -1, 1),
                x -> x.bend(LEAST_INT, 0, 1), x -> x.bend(0, LEAST_INT, 1), x -> x.bend(MOST_INT, 0, 1), x -> x.bend(0, MOST_INT, 1),
                x -> x.bend(size - 1, size - 1, 0), x -> x.bend(size - 1, size - 1, 21), x -> x.bend(0, 0, -1), x -> x.bend(0, 0, -9),
                x -> x.bend(0, 0, LEAST_INT), x -> x.bend(0, 0, MOST_INT));
            Due.is("i, j just below n", furnishedOfSize(n).bend(n - 1, n - 1, 2), 1);
        }
        Refused.ints(BAD, Samples::full, x -> x.bend(0, 1, 10), x -> x.bend(0, 1, -10), x -> x.bend(2, 1, 10), x -> x.bend(2, 0, -10),
            x -> x.bend(1, 0, 20), x -> x.bend(0, 2, LEAST_INT), x -> x.bend(1, 2, MOST_INT));
        Due.is("10 where alike", furnishedOfSize(2).bend(0, 0, 10), 1);
        Due.is("0 where unlike", furnishedOfSize(2).bend(0, 1, 0), 0);
        Due.is("-1 where unlike", furnishedOfSize(2).bend(0, 1, -1), 0);
    }

    private static void badPush() {
        for (int n = 1; n <= 3; n++) {
            int size = n;
            Refused.ints(BAD, () -> furnishedOfSize(size), x -> x.push(size, 0), x -> x.push(3, 0), x -> x.push(-1, 0), x -> x.push(LEAST_INT, 0),
                x -> x.push(MOST_INT, 0), x -> x.push(size - 1, 100), x -> x.push(size - 1, -100), x -> x.push(0, LEAST_INT), x -> x.push(0, MOST_INT));
            Due.is("i just below n, the most", furnishedOfSize(n).push(n - 1, 99), 0);
            Due.is("i just below n, the least", furnishedOfSize(n).push(n - 1, -99), 0);
        }
    }

    private static void badTide() {
        Refused.ints(BAD, Samples::full, x -> x.tide(-1), x -> x.tide(41), x -> x.tide(LEAST_INT), x -> x.tide(MOST_INT));
        Due.is("the least", full().tide(0), 40);
        Due.is("the most", new LeastInBounds().tide(40), 0);
    }

    private static void firstToLastLine() {
        LeastInBounds x = new LeastInBounds();
        for (int l = 0; l < 6; l++) {
            Due.is("its number", x.line(l % 5, l, l), l);
            Due.is("how many", x.count(1), l + 1);
            Due.is("it is there", x.lineOf(l, 1), l);
            Due.is("the next isn't", x.lineOf(l + 1, 1), BAD);
        }
    }

    private static void badLine() {
        Refused.ints(BAD, Samples::furnishedTwo, x -> x.line(-1, 0, 0), x -> x.line(5, 0, 0), x -> x.line(0, 100, 0), x -> x.line(0, -100, 0),
            x -> x.line(0, 0, 10), x -> x.line(0, 0, -10), x -> x.line(LEAST_INT, 0, 0), x -> x.line(MOST_INT, 0, 0),
            x -> x.line(0, LEAST_INT, 0), x -> x.line(0, MOST_INT, 0), x -> x.line(0, 0, LEAST_INT), x -> x.line(0, 0, MOST_INT));
        Due.is("all the least", two().line(0, -99, -9), 2);
        Due.is("all the most", two().line(4, 99, 9), 2);
    }

    private static void fullOfLines() {
        Refused.ints(FULL, Samples::full, x -> x.line(0, 0, 0), x -> x.line(4, 99, 9), x -> x.line(0, -99, -9));
        LeastInBounds x = full();
        x.drop(3);
        Due.is("one less", x.line(0, 0, 0), 5);
        Due.is("full again", x.line(0, 0, 0), FULL);
        x.back();
        Due.is("as in the image", x.line(0, 0, 0), 1);
        x = full();
        x.size(3);
        Due.is("a new size", x.line(0, 0, 0), 0);
    }

    private static void slopesOfNoVariable() {
        for (int n = 1; n <= 3; n++) {
            LeastInBounds x = furnishedOfSize(n);
            x.line(UNDER, 0, 0);
            for (int i = 0; i <= 2; i++) {
                Due.is("a(" + i + ") at first", x.slope(0, i, 9), 0);
                Due.is("the most", x.slope(0, i, -9), 9);
                Due.is("the least", x.slope(0, i, i), -9);
            }
            for (int i = 0; i <= 2; i++) {
                Due.is("each has its own", x.slope(0, i, 0), i);
            }
        }
    }

    private static void badSlope() {
        Refused.ints(BAD, Samples::furnishedTwo, x -> x.slope(2, 0, 0), x -> x.slope(-1, 0, 0), x -> x.slope(0, 3, 0), x -> x.slope(0, -1, 0),
            x -> x.slope(1, 3, 0), x -> x.slope(1, -1, 0), x -> x.slope(0, 0, 10), x -> x.slope(0, 0, -10), x -> x.slope(1, 2, 10),
            x -> x.slope(LEAST_INT, 0, 0), x -> x.slope(MOST_INT, 0, 0), x -> x.slope(0, LEAST_INT, 0), x -> x.slope(0, MOST_INT, 0),
            x -> x.slope(0, 0, LEAST_INT), x -> x.slope(0, 0, MOST_INT));
        Refused.ints(BAD, Samples::furnished, x -> x.slope(0, 0, 0));
        Refused.ints(BAD, Samples::full, x -> x.slope(6, 0, 0));
        Due.is("the last of the last", full().slope(5, 2, 0), 6);
    }

    private static void changeToEnds() {
        LeastInBounds x = full();
        int[][] ends = {{0, 4}, {-99, 99}, {-9, 9}};
        for (int what = 0; what <= 2; what++) {
            for (int l = 0; l < 6; l += 5) {
                int was = x.lineOf(l, what);
                Due.is("to the least", x.change(l, what, ends[what][0]), was);
                Due.is("to the most", x.change(l, what, ends[what][1]), ends[what][0]);
                Due.is("it is so", x.lineOf(l, what), ends[what][1]);
            }
        }
        Due.is("no other line", x.lineOf(1, 1), 49);
    }

    private static void badChange() {
        Refused.ints(BAD, Samples::furnishedTwo, x -> x.change(0, 0, -1), x -> x.change(0, 0, 5), x -> x.change(0, 1, -100), x -> x.change(0, 1, 100),
            x -> x.change(0, 2, -10), x -> x.change(0, 2, 10), x -> x.change(0, 3, 0), x -> x.change(0, -1, 0),
            x -> x.change(2, 0, 0), x -> x.change(-1, 0, 0), x -> x.change(LEAST_INT, 0, 0), x -> x.change(MOST_INT, 1, 0),
            x -> x.change(0, LEAST_INT, 0), x -> x.change(0, MOST_INT, 0), x -> x.change(0, 0, LEAST_INT), x -> x.change(0, 1, MOST_INT),
            x -> x.change(0, 2, LEAST_INT));
        Refused.ints(BAD, Samples::furnished, x -> x.change(0, 0, 0));
        Refused.ints(BAD, Samples::full, x -> x.change(6, 0, 0));
    }

    private static void dropAtEnds() {
        int[] dropped = {0, 5, 2};
        for (int gone : dropped) {
            LeastInBounds x = full();
            Due.is("how many there are", x.drop(gone), 5);
            Due.is("LINES", x.count(1), 5);
            for (int l = 0; l < 5; l++) {
                int was = l < gone ? l : l + 1;
                Due.is("KIND", x.lineOf(l, 0), was % 5);
                Due.is("b", x.lineOf(l, 1), 50 - was);
                Due.is("d", x.lineOf(l, 2), was - 3);
                Due.is("a(0)", x.slope(l, 0, 0), was - 2);
                Due.is("a(1)", x.slope(l, 1, 0), 5 - was);
                Due.is("a(2)", x.slope(l, 2, 0), was + 1);
            }
            Due.is("no line 5", x.lineOf(5, 0), BAD);
        }
        LeastInBounds x = full();
        for (int left = 5; left >= 0; left--) {
            Due.is("down to none", x.drop(0), left);
        }
        Due.is("none is left", x.drop(0), BAD);
        Due.is("nothing to bound it", x.working(0), 0);
    }

    private static void badDrop() {
        Refused.ints(BAD, Samples::furnishedTwo, x -> x.drop(2), x -> x.drop(-1), x -> x.drop(5), x -> x.drop(LEAST_INT), x -> x.drop(MOST_INT));
        Refused.ints(BAD, Samples::furnished, x -> x.drop(0));
        Refused.ints(BAD, Samples::full, x -> x.drop(6));
        Due.is("the last of two", two().drop(1), 1);
    }

    private static void firstToLastOfLine() {
        LeastInBounds x = full();
        // Line 5: UNDER, b 45, d 2, a (3, 0, 6), at tide 40; line 0 likewise: 50, -3, (-2, 5, 1).
        int[][] due = {{0, 50, -3, -70, -2, 5, 1}, {0, 45, 2, 125, 3, 0, 6}};
        for (int what = 0; what <= 6; what++) {
            Due.is("the first line's " + what, x.lineOf(0, what), due[0][what]);
            Due.is("the last line's " + what, x.lineOf(5, what), due[1][what]);
        }
        x.tide(0);
        Due.is("BOUND of now", x.lineOf(5, 3), 45);
    }

    private static void rowOfNoVariable() {
        for (int kind = 0; kind < 5; kind++) {
            for (int n = 1; n <= 3; n++) {
                LeastInBounds x = furnishedOfSize(n);
                addLine(x, kind, 0, 0, 9, 9, 9);
                int g = kind == OVER || kind == APART ? -9 : kind == TWICE ? 18 : 9;
                for (int i = 0; i <= 2; i++) {
                    Due.is("g(" + i + ") of " + n, x.lineOf(0, 4 + i), i < n ? g : 0);
                }
            }
        }
    }

    private static void badLineOf() {
        Refused.ints(BAD, Samples::furnishedTwo, x -> x.lineOf(0, -1), x -> x.lineOf(0, 7), x -> x.lineOf(2, 0), x -> x.lineOf(-1, 0),
            x -> x.lineOf(LEAST_INT, 0), x -> x.lineOf(MOST_INT, 0), x -> x.lineOf(0, LEAST_INT), x -> x.lineOf(0, MOST_INT), x -> x.lineOf(2, 7));
        Refused.ints(BAD, Samples::furnished, x -> x.lineOf(0, 0));
        Refused.ints(BAD, Samples::full, x -> x.lineOf(6, 0));
    }

    private static LeastInBounds bent(int square, int first, int second, int third) {
        LeastInBounds x = furnishedOfSize(3);
        for (int i = 0; i < 3; i++) {
            x.bend(i, i, square);
        }
        x.bend(0, 1, first);
        x.bend(0, 2, second);
        x.bend(1, 2, third);
        return x;
    }

    private static void minorsAtEnds() {
        Due.is("the least MINOR 1", bent(1, 9, 9, 9).minor(1), 1);
        Due.is("the greatest MINOR 1", bent(20, 9, 9, 9).minor(1), 20);
        Due.is("the least MINOR 2", bent(1, -9, 9, 9).minor(2), 1 - 81);
        Due.is("the greatest MINOR 2", bent(20, 0, 9, 9).minor(2), 400);
        Due.is("the greatest MINOR 3", bent(20, 0, 0, 0).minor(3), 8000);
        // 1 - 3 * 81 and twice the product of those across
        Due.is("a MINOR 3 far below 0", bent(1, -9, 9, 9).minor(3), 1 - 243 - 1458);
        Due.is("a MINOR 3 above 0, all across at their most", bent(1, 9, 9, 9).minor(3), 1 - 243 + 1458);
        LeastInBounds x = bent(2, 1, -2, 5);
        x.bend(1, 1, 3);
        x.bend(2, 2, 4);
        // 4 * 5 - 5 * (10 + 2) - 2 * (5 + 6)
        Due.is("MINOR 3 of unlike ones", x.minor(3), -62);
        x.bend(0, 2, 3);
        x.bend(1, 2, -1);
        // 4 * 5 + 1 * (-2 - 3) + 3 * (-1 - 9)
        Due.is("MINOR 3 of others", x.minor(3), -15);
        x = furnishedOfSize(1);
        Due.is("MINOR 1 of one", x.minor(1), 1);
        x = furnishedOfSize(2);
        x.bend(0, 1, 9);
        Due.is("MINOR 2 of two", x.minor(2), -80);
    }

    private static void badMinor() {
        for (int n = 1; n <= 3; n++) {
            int size = n;
            Refused.ints(BAD, () -> furnishedOfSize(size), x -> x.minor(0), x -> x.minor(size + 1), x -> x.minor(-1), x -> x.minor(4),
                x -> x.minor(LEAST_INT), x -> x.minor(MOST_INT));
            Due.is("the last", furnishedOfSize(n).minor(n), 1);
        }
    }

    private static void properOrNot() {
        LeastInBounds x = new LeastInBounds();
        Due.is("at first", x.isProper(), 1);
        x.bend(0, 1, 1);
        Due.is("MINOR 2 is 0", x.isProper(), 0);
        x.bend(0, 0, 2);
        Due.is("MINOR 2 is 1", x.isProper(), 1);
        x.size(1);
        Due.is("one variable always is", x.isProper(), 1);
    }
}

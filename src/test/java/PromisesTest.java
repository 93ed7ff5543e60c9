/**
 * A test for each promise of the document, named by its number: ordinary inputs, the edges that the
 * document names, wrong inputs. What is due was reckoned by hand.
 */
public final class PromisesTest extends Samples {
    public static void main(String[] args) {
        newObject1();
        size2();
        bend3();
        push4();
        tide5();
        line6();
        slope7();
        change8();
        drop9();
        lineOf10();
        minor11();
        isProper12();
        working13();
        answer14();
        worth15();
        weight16();
        slack17();
        held18();
        tight19();
        steps20();
        walk21();
        pieces22();
        reach23();
        nearest24();
        distance25();
        certify26();
        check27();
        solve28();
        book29To32();
        bookOfTheLast();
        sheet33();
        cell34();
        read35();
        copy36();
        imageAndBack37And38();
        count39();
        Due.end();
    }

    private static void newObject1() {
        LeastInBounds old = new LeastInBounds();
        old.solve();
        LeastInBounds x = new LeastInBounds();
        Due.is("1: VARIABLES", x.count(0), 2);
        Due.is("1: LINES", x.count(1), 0);
        Due.is("1: T", x.count(2), 0);
        Due.is("1: NOTES", x.notes(), 0);
        Due.is("1: MARK", x.mark(), 0);
        Due.is("1: TRAIL", x.trail(0), PLACE);
        Due.refused("1: LEAST", x.least(0), NONE);
        Due.is("1: back", x.back(), STATE);
        for (int s = 0; s < 4; s++) {
            Due.refused("1: sheet " + s, x.read(s, 0), NOTHING);
        }
        Due.is("1: q(0, 0)", x.bend(0, 0, 1), 1);
        Due.is("1: q(0, 1)", x.bend(0, 1, 0), 0);
        Due.is("1: c(1)", x.push(1, 0), 0);
    }

    private static void size2() {
        LeastInBounds x = two();
        x.tide(7);
        x.bend(0, 0, 5);
        x.bend(0, 1, 2);
        Due.is("2: size(3)", x.size(3), 2);
        Due.is("2: VARIABLES", x.count(0), 3);
        Due.is("2: LINES", x.count(1), 0);
        Due.is("2: T", x.count(2), 0);
        Due.is("2: q(0, 0)", x.bend(0, 0, 7), 1);
        Due.is("2: q(1, 0)", x.bend(1, 0, 3), 0);
        Due.is("2: q(2, 2)", x.bend(2, 2, 9), 1);
        Due.is("2: c(0)", x.push(0, 1), 0);
        Due.is("2: c(2)", x.push(2, 5), 0);
        Due.is("2: size(1)", x.size(1), 3);
        Due.is("2: q(0, 0) of size 1", x.bend(0, 0, 2), 1);
        Due.is("2: size(1) again", x.size(1), 1);
        Due.is("2: q(0, 0) as at first again", x.bend(0, 0, 2), 1);
        for (int n : new int[] {0, 4, -1, LEAST_INT, MOST_INT}) {
            Due.is("2: size(" + n + ")", x.size(n), BAD);
        }
        Due.is("2: a refused one changes nothing", x.bend(0, 0, 2), 2);
        x.size(3);
        Due.is("2: c(2) was wiped", x.push(2, 0), 0);
        Due.is("2: q(2, 2) was wiped", x.bend(2, 2, 1), 1);
    }

    private static void bend3() {
        LeastInBounds x = new LeastInBounds();
        Due.is("3: bend(0, 1, -9)", x.bend(0, 1, -9), 0);
        Due.is("3: q(1, 0) is alike", x.bend(1, 0, 9), -9);
        Due.is("3: q(0, 1) is alike", x.bend(0, 1, 0), 9);
        Due.is("3: bend(1, 1, 20)", x.bend(1, 1, 20), 1);
        Due.is("3: bend(1, 1, 1)", x.bend(1, 1, 1), 20);
        int[][] bad = {
            {2, 0, 1}, {0, 2, 1}, {-1, 0, 1}, {0, -1, 1}, {2, 2, 1}, {3, 3, 1}, {0, 1, 10}, {0, 1, -10},
            {0, 0, 0}, {0, 0, 21}, {0, 0, -1}, {LEAST_INT, 0, 1}, {0, MOST_INT, 1}, {0, 1, LEAST_INT}, {1, 1, MOST_INT}
        };
        for (int[] b : bad) {
            Due.is("3: bend(" + b[0] + ", " + b[1] + ", " + b[2] + ")", x.bend(b[0], b[1], b[2]), BAD);
        }
        Due.is("3: q(0, 0) stays", x.bend(0, 0, 1), 1);
        Due.is("3: q(0, 1) stays", x.bend(0, 1, 0), 0);
        x.size(3);
        Due.is("3: bend(2, 1, 9)", x.bend(2, 1, 9), 0);
        Due.is("3: q(1, 2)", x.bend(1, 2, 1), 9);
        x.size(1);
        Due.is("3: bend(0, 1, 1) of one variable", x.bend(0, 1, 1), BAD);
    }

    private static void push4() {
        LeastInBounds x = new LeastInBounds();
        Due.is("4: push(0, 99)", x.push(0, 99), 0);
        Due.is("4: push(0, -99)", x.push(0, -99), 99);
        Due.is("4: push(1, 5)", x.push(1, 5), 0);
        int[][] bad = {{2, 0}, {-1, 0}, {0, 100}, {0, -100}, {LEAST_INT, 0}, {MOST_INT, 0}, {0, LEAST_INT}, {1, MOST_INT}};
        for (int[] b : bad) {
            Due.is("4: push(" + b[0] + ", " + b[1] + ")", x.push(b[0], b[1]), BAD);
        }
        Due.is("4: c(0) stays", x.push(0, 0), -99);
        Due.is("4: c(1) stays", x.push(1, 0), 5);
    }

    private static void tide5() {
        LeastInBounds x = new LeastInBounds();
        Due.is("5: tide(40)", x.tide(40), 0);
        Due.is("5: tide(3)", x.tide(3), 40);
        for (int v : new int[] {-1, 41, LEAST_INT, MOST_INT}) {
            Due.is("5: tide(" + v + ")", x.tide(v), BAD);
        }
        Due.is("5: T stays", x.tide(0), 3);
    }

    private static void line6() {
        LeastInBounds x = new LeastInBounds();
        int[][] bad = {
            {-1, 0, 0}, {5, 0, 0}, {0, 100, 0}, {0, -100, 0}, {0, 0, 10}, {0, 0, -10},
            {LEAST_INT, 0, 0}, {0, MOST_INT, 0}, {0, 0, LEAST_INT}
        };
        for (int[] b : bad) {
            Due.is("6: line(" + b[0] + ", " + b[1] + ", " + b[2] + ")", x.line(b[0], b[1], b[2]), BAD);
        }
        Due.is("6: no LINES yet", x.count(1), 0);
        int[][] good = {{0, 99, 9}, {4, -99, -9}, {2, 0, 0}, {3, 1, 1}, {1, 2, 2}, {0, 3, 3}};
        for (int k = 0; k < 6; k++) {
            Due.is("6: line " + k, x.line(good[k][0], good[k][1], good[k][2]), k);
            x.slope(k, 0, k + 1);
        }
        Due.is("6: a seventh", x.line(0, 0, 0), FULL);
        Due.is("6: a seventh, and bad", x.line(5, 0, 0), BAD);
        Due.is("6: six LINES", x.count(1), 6);
        for (int k = 0; k < 6; k++) {
            for (int what = 0; what < 3; what++) {
                Due.is("6: lineOf(" + k + ", " + what + ")", x.lineOf(k, what), good[k][what]);
            }
        }
        x.drop(5);
        Due.is("6: a sixth again", x.line(0, 0, 0), 5);
        Due.is("6: its a(0) is 0 at first", x.slope(5, 0, 0), 0);
    }

    private static void slope7() {
        LeastInBounds x = new LeastInBounds();
        Due.is("7: no line", x.slope(0, 0, 1), BAD);
        x.line(UNDER, 0, 0);
        Due.is("7: slope(0, 0, 9)", x.slope(0, 0, 9), 0);
        Due.is("7: slope(0, 0, -9)", x.slope(0, 0, -9), 9);
        Due.is("7: slope(0, 2, 4), of no variable", x.slope(0, 2, 4), 0);
        Due.is("7: slope(0, 2, 0)", x.slope(0, 2, 0), 4);
        int[][] bad = {{1, 0, 0}, {-1, 0, 0}, {0, 3, 0}, {0, -1, 0}, {0, 0, 10}, {0, 0, -10}, {LEAST_INT, 0, 0}, {0, MOST_INT, 0}, {0, 0, LEAST_INT}};
        for (int[] b : bad) {
            Due.is("7: slope(" + b[0] + ", " + b[1] + ", " + b[2] + ")", x.slope(b[0], b[1], b[2]), BAD);
        }
        Due.is("7: a(0) stays", x.slope(0, 0, 0), -9);
        LeastInBounds y = two();
        y.slope(0, 2, 9);
        fraction("7: a(2) does nothing, as there is no x(2)", y.answer(1, 0, 0), y.answer(1, 0, 1), 2, 1);
    }

    private static void change8() {
        LeastInBounds x = new LeastInBounds();
        Due.is("8: no line", x.change(0, 0, 0), BAD);
        x.line(UNDER, 1, 2);
        Due.is("8: KIND", x.change(0, 0, 4), 0);
        Due.is("8: KIND again", x.change(0, 0, 3), 4);
        Due.is("8: b", x.change(0, 1, -99), 1);
        Due.is("8: b again", x.change(0, 1, 99), -99);
        Due.is("8: d", x.change(0, 2, -9), 2);
        Due.is("8: d again", x.change(0, 2, 9), -9);
        int[][] bad = {
            {0, 0, 5}, {0, 0, -1}, {0, 1, 100}, {0, 1, -100}, {0, 2, 10}, {0, 2, -10}, {0, 3, 0}, {0, -1, 0},
            {1, 0, 0}, {-1, 0, 0}, {MOST_INT, 0, 0}, {0, LEAST_INT, 0}, {0, 1, MOST_INT}
        };
        for (int[] b : bad) {
            Due.is("8: change(" + b[0] + ", " + b[1] + ", " + b[2] + ")", x.change(b[0], b[1], b[2]), BAD);
        }
        Due.is("8: KIND stays", x.lineOf(0, 0), 3);
        Due.is("8: b stays", x.lineOf(0, 1), 99);
        Due.is("8: d stays", x.lineOf(0, 2), 9);
    }

    private static void drop9() {
        LeastInBounds x = new LeastInBounds();
        Due.is("9: no line", x.drop(0), BAD);
        for (int k = 0; k < 6; k++) {
            addLine(x, k % 5, 10 + k, k, k + 1, k + 2, k + 3);
        }
        Due.is("9: drop(6)", x.drop(6), BAD);
        Due.is("9: drop(-1)", x.drop(-1), BAD);
        Due.is("9: drop(most)", x.drop(MOST_INT), BAD);
        Due.is("9: drop(2)", x.drop(2), 5);
        int[] left = {0, 1, 3, 4, 5};
        for (int k = 0; k < 5; k++) {
            Due.is("9: KIND of " + k, x.lineOf(k, 0), left[k] % 5);
            Due.is("9: b of " + k, x.lineOf(k, 1), 10 + left[k]);
            Due.is("9: d of " + k, x.lineOf(k, 2), left[k]);
            Due.is("9: a(2) of " + k, x.slope(k, 2, 0), left[k] + 3);
        }
        Due.is("9: line 5 is no more", x.lineOf(5, 0), BAD);
        Due.is("9: drop(4), the last", x.drop(4), 4);
        Due.is("9: drop(0), the first", x.drop(0), 3);
        Due.is("9: b of the first", x.lineOf(0, 1), 11);
    }

    private static void lineOf10() {
        LeastInBounds x = new LeastInBounds();
        Due.is("10: no line", x.lineOf(0, 0), BAD);
        for (int kind = 0; kind < 5; kind++) {
            addLine(x, kind, 7, 3, 4, -5, 6);
        }
        x.tide(10);
        int[][] due = {{37, 4, -5}, {-37, -4, 5}, {37, 4, -5}, {37, 8, -10}, {-38, -4, 5}};
        for (int kind = 0; kind < 5; kind++) {
            Due.is("10: KIND " + kind, x.lineOf(kind, 0), kind);
            Due.is("10: b of " + kind, x.lineOf(kind, 1), 7);
            Due.is("10: d of " + kind, x.lineOf(kind, 2), 3);
            Due.is("10: BOUND of " + kind, x.lineOf(kind, 3), due[kind][0]);
            Due.is("10: g(0) of " + kind, x.lineOf(kind, 4), due[kind][1]);
            Due.is("10: g(1) of " + kind, x.lineOf(kind, 5), due[kind][2]);
            Due.is("10: g(2) of " + kind + ", of no variable", x.lineOf(kind, 6), 0);
        }
        x.tide(0);
        Due.is("10: BOUND at tide 0", x.lineOf(4, 3), -8);
        int[][] bad = {{0, 7}, {0, -1}, {5, 0}, {-1, 0}, {LEAST_INT, 0}, {0, MOST_INT}};
        for (int[] b : bad) {
            Due.is("10: lineOf(" + b[0] + ", " + b[1] + ")", x.lineOf(b[0], b[1]), BAD);
        }
        x.size(3);
        addLine(x, TWICE, 0, 0, 0, 0, 9);
        Due.is("10: g(2) where there is x(2)", x.lineOf(0, 6), 18);
    }

    private static void minor11() {
        LeastInBounds x = new LeastInBounds();
        x.size(3);
        x.bend(0, 0, 2);
        x.bend(1, 1, 3);
        x.bend(2, 2, 4);
        x.bend(0, 1, 1);
        x.bend(0, 2, -2);
        x.bend(1, 2, 5);
        Due.is("11: minor(1)", x.minor(1), 2);
        Due.is("11: minor(2)", x.minor(2), 5);
        // 4 * 5 - 5 * (10 + 2) - 2 * (5 + 6)
        Due.is("11: minor(3)", x.minor(3), -62);
        for (int k : new int[] {0, 4, -1, LEAST_INT, MOST_INT}) {
            Due.is("11: minor(" + k + ")", x.minor(k), BAD);
        }
        x.size(1);
        Due.is("11: minor(1) of one", x.minor(1), 1);
        Due.is("11: minor(2) of one", x.minor(2), BAD);
    }

    private static void isProper12() {
        LeastInBounds x = new LeastInBounds();
        Due.is("12: at first", x.isProper(), 1);
        x.bend(0, 1, 1);
        Due.is("12: minor 2 is 0", x.isProper(), 0);
        x.bend(1, 1, 2);
        Due.is("12: minor 2 is 1", x.isProper(), 1);
        x.bend(0, 1, -2);
        Due.is("12: minor 2 is -2", x.isProper(), 0);
        x.size(3);
        x.bend(0, 1, 1);
        x.bend(2, 2, 20);
        Due.is("12: minor 2 is 0 of three", x.isProper(), 0);
        x.bend(0, 1, 0);
        x.bend(1, 2, 4);
        Due.is("12: minor 3 is 20 - 16", x.isProper(), 1);
        x.bend(1, 2, 5);
        Due.is("12: minor 3 is 20 - 25", x.isProper(), 0);
        x.size(3);
        x.bend(0, 1, 2);
        x.bend(1, 2, 2);
        x.bend(0, 2, 4);
        Due.is("12: minor 2 is below 0", x.minor(2), -3);
        Due.is("12: minor 3 is above 0", x.minor(3), 9);
        Due.is("12: one below 0 is enough", x.isProper(), 0);
        x.size(1);
        Due.is("12: of one", x.isProper(), 1);
    }

    private static void working13() {
        LeastInBounds x = two();
        Due.is("13: of none", x.working(0), 0);
        Due.is("13: of line 0", x.working(1), 1);
        Due.is("13: of line 1, which is just met without weight", x.working(2), 0);
        Due.is("13: of both", x.working(3), 3);
        for (int set : new int[] {4, 7, -1, LEAST_INT, MOST_INT, 64}) {
            Due.is("13: working(" + set + ")", x.working(set), BAD);
        }
        Due.is("13: no answer", empty().working(3), NONE);
        Due.is("13: each alone has one", empty().working(2), 2);
        Due.is("13: not proper", improper().working(0), STATE);
        Due.is("13: not proper, and bad", improper().working(1), BAD);
        leastOfSeveral13();
        kinds13();
    }

    private static void leastOfSeveral13() {
        LeastInBounds x = new LeastInBounds();
        x.push(0, -4);
        addLine(x, UNDER, 3, 0, 1, 1);
        addLine(x, UNDER, 3, 0, 1, -1);
        addLine(x, UNDER, 3, 0, 1, 0);
        addLine(x, UNDER, 6, 0, 2, 0);
        // At (3, 0) lines 0 and 1 do it together, line 2 or 3 each alone: 3 is less than 4 and 8.
        Due.is("13: the least as a number", x.working(15), 3);
        Due.is("13: without line 0", x.working(14), 4);
        Due.is("13: line 3 alone", x.working(11), 3);
        Due.is("13: lines 0, 3", x.working(9), 8);
        LeastInBounds y = new LeastInBounds();
        addLine(y, ON, 0, 0, 0, 0);
        addLine(y, UNDER, 0, 0, 0, 0);
        Due.is("13: empty rows are never independent", y.working(3), 0);
        y.change(1, 1, -1);
        Due.is("13: 0 isn't under -1", y.working(3), NONE);
        y.change(0, 1, 1);
        Due.is("13: 0 isn't on 1", y.working(1), NONE);
    }

    private static void kinds13() {
        LeastInBounds x = new LeastInBounds();
        x.size(1);
        addLine(x, ON, -2, 0, 1);
        Due.is("13: ON may pull down", x.working(1), 1);
        fraction("13: its weight, above 0", x.weight(1, 0, 0), x.weight(1, 0, 1), 2, 1);
        x.change(0, 1, 2);
        fraction("13: its weight, below 0", x.weight(1, 0, 0), x.weight(1, 0, 1), -2, 1);
        x.change(0, 0, APART);
        fraction("13: apart from 2", x.answer(1, 0, 0), x.answer(1, 0, 1), 3, 1);
        x.change(0, 0, OVER);
        fraction("13: over 2", x.answer(1, 0, 0), x.answer(1, 0, 1), 2, 1);
        x.change(0, 0, UNDER);
        Due.is("13: under 2 is nothing to 0", x.working(1), 0);
        x.change(0, 1, -3);
        x.change(0, 0, TWICE);
        fraction("13: twice under -3", x.answer(1, 0, 0), x.answer(1, 0, 1), -3, 2);
        fraction("13: its weight", x.weight(1, 0, 0), x.weight(1, 0, 1), 3, 4);
    }

    private static void answer14() {
        LeastInBounds x = two();
        fraction("14: of none", x.answer(0, 1, 0), x.answer(0, 1, 1), 4, 1);
        fraction("14: of line 0", x.answer(1, 0, 0), x.answer(1, 0, 1), 2, 1);
        fraction("14: of both", x.answer(3, 1, 0), x.answer(3, 1, 1), 2, 1);
        x.bend(0, 0, 6);
        fraction("14: lowest terms", x.answer(0, 0, 0), x.answer(0, 0, 1), 1, 2);
        x.push(0, 0);
        fraction("14: 0", x.answer(0, 0, 0), x.answer(0, 0, 1), 0, 1);
        x.push(0, 4);
        fraction("14: below 0", x.answer(0, 0, 0), x.answer(0, 0, 1), -2, 3);
        int[][] bad = {{4, 0, 0}, {-1, 0, 0}, {0, 2, 0}, {0, -1, 0}, {0, 0, 2}, {0, 0, -1}, {LEAST_INT, 0, 0}, {0, MOST_INT, 0}, {0, 0, MOST_INT}};
        for (int[] b : bad) {
            Due.refused("14: answer(" + b[0] + ", " + b[1] + ", " + b[2] + ")", x.answer(b[0], b[1], b[2]), BAD);
        }
        Due.refused("14: none", empty().answer(3, 0, 0), NONE);
        Due.refused("14: not proper", improper().answer(0, 0, 0), STATE);
        Due.refused("14: not proper, and bad", improper().answer(0, 0, 2), BAD);
    }

    private static void worth15() {
        LeastInBounds x = two();
        fraction("15: of none", x.worth(0, 0), x.worth(0, 1), -25, 2);
        fraction("15: of line 0", x.worth(1, 0), x.worth(1, 1), -23, 2);
        // (9 + 4) / 2 - 9 - 8
        fraction("15: of both", x.worth(3, 0), x.worth(3, 1), -21, 2);
        x.bend(0, 1, 1);
        x.bend(1, 1, 2);
        // (3, 1 / 2): (9 + 3 + 1 / 2) / 2 - 9 - 2
        fraction("15: bent across", x.worth(3, 0), x.worth(3, 1), -19, 4);
        LeastInBounds y = new LeastInBounds();
        fraction("15: 0", y.worth(0, 0), y.worth(0, 1), 0, 1);
        int[][] bad = {{4, 0}, {-1, 0}, {0, 2}, {0, -1}, {MOST_INT, 0}, {0, LEAST_INT}};
        for (int[] b : bad) {
            Due.refused("15: worth(" + b[0] + ", " + b[1] + ")", x.worth(b[0], b[1]), BAD);
        }
        Due.refused("15: none", empty().worth(3, 1), NONE);
        Due.refused("15: not proper", improper().worth(0, 0), STATE);
        Due.refused("15: not proper, and bad", improper().worth(2, 0), BAD);
    }

    private static void weight16() {
        LeastInBounds x = two();
        fraction("16: line 0 alone", x.weight(1, 0, 0), x.weight(1, 0, 1), 1, 1);
        fraction("16: line 0 of both", x.weight(3, 0, 0), x.weight(3, 0, 1), 2, 1);
        fraction("16: line 1 of both", x.weight(3, 1, 0), x.weight(3, 1, 1), 2, 1);
        fraction("16: line 1 alone, not working", x.weight(2, 1, 0), x.weight(2, 1, 1), 0, 1);
        x.slope(0, 0, 2);
        // 2 x0 + x1 = 5, from (3, 4) on by (2, 1): 10 - 5 over 5
        fraction("16: steeper", x.weight(1, 0, 0), x.weight(1, 0, 1), 1, 1);
        x.change(0, 1, 8);
        fraction("16: a fraction", x.weight(1, 0, 0), x.weight(1, 0, 1), 2, 5);
        int[][] bad = {{4, 0, 0}, {-1, 0, 0}, {2, 0, 0}, {1, 1, 0}, {3, 2, 0}, {3, -1, 0}, {3, 32, 0}, {3, 0, 2}, {3, 0, -1}, {3, LEAST_INT, 0}, {3, MOST_INT, 0}};
        for (int[] b : bad) {
            Due.refused("16: weight(" + b[0] + ", " + b[1] + ", " + b[2] + ")", x.weight(b[0], b[1], b[2]), BAD);
        }
        Due.refused("16: none", empty().weight(3, 0, 0), NONE);
        LeastInBounds y = two();
        y.bend(0, 1, 9);
        Due.refused("16: not proper", y.weight(3, 0, 0), STATE);
        Due.refused("16: not proper, and bad", y.weight(2, 0, 0), BAD);
    }

    private static void slack17() {
        LeastInBounds x = two();
        fraction("17: line 0 of none", x.slack(0, 0, 0), x.slack(0, 0, 1), -2, 1);
        fraction("17: line 1 of none", x.slack(0, 1, 0), x.slack(0, 1, 1), 0, 1);
        fraction("17: line 1 of line 0", x.slack(1, 1, 0), x.slack(1, 1, 1), -1, 1);
        addLine(x, APART, 1, 1, 0, 1);
        x.tide(1);
        // -x1 no more than -2 - 1: 4 - 3
        fraction("17: apart", x.slack(0, 2, 0), x.slack(0, 2, 1), 1, 1);
        x.bend(1, 1, 3);
        fraction("17: a fraction", x.slack(0, 2, 0), x.slack(0, 2, 1), -5, 3);
        int[][] bad = {{8, 0, 0}, {-1, 0, 0}, {0, 3, 0}, {0, -1, 0}, {0, 0, 2}, {0, 0, -1}, {0, MOST_INT, 0}, {LEAST_INT, 0, 0}};
        for (int[] b : bad) {
            Due.refused("17: slack(" + b[0] + ", " + b[1] + ", " + b[2] + ")", x.slack(b[0], b[1], b[2]), BAD);
        }
        Due.refused("17: none", empty().slack(3, 0, 0), NONE);
        LeastInBounds y = two();
        y.bend(0, 1, 9);
        Due.refused("17: not proper", y.slack(0, 1, 0), STATE);
        Due.refused("17: not proper, and bad", y.slack(0, 2, 0), BAD);
    }

    private static void held18() {
        LeastInBounds x = two();
        addLine(x, ON, 3, 0, 1, 0);
        addLine(x, ON, 4, 0, 1, 0);
        // (3, 4): line 0 not, line 1 just, line 2 on, line 3 not though under it
        Due.is("18: of none", x.held(0), 6);
        // (2, 3)
        Due.is("18: of line 0", x.held(1), 1);
        Due.is("18: of 0, 1", x.held(3), 7);
        Due.is("18: of 2, 3", x.held(12), NONE);
        for (int set : new int[] {16, -1, LEAST_INT, MOST_INT}) {
            Due.is("18: held(" + set + ")", x.held(set), BAD);
        }
        Due.is("18: not proper", improper().held(0), STATE);
        Due.is("18: not proper, and bad", improper().held(1), BAD);
        Due.is("18: no lines", new LeastInBounds().held(0), 0);
    }

    private static void tight19() {
        LeastInBounds x = two();
        addLine(x, ON, 4, 0, 1, 0);
        addLine(x, UNDER, 9, 0, 1, 1);
        Due.is("19: of none", x.tight(0), 2);
        Due.is("19: of line 0", x.tight(1), 1);
        Due.is("19: of 0, 1", x.tight(3), 3);
        // (4, 1)
        Due.is("19: of 0, 2", x.tight(5), 5);
        Due.is("19: no answer", empty().tight(3), NONE);
        for (int set : new int[] {16, -1, LEAST_INT, MOST_INT}) {
            Due.is("19: tight(" + set + ")", x.tight(set), BAD);
        }
        Due.is("19: not proper", improper().tight(0), STATE);
        Due.is("19: not proper, and bad", improper().tight(1), BAD);
    }

    private static void steps20() {
        Due.is("20: no lines", new LeastInBounds().steps(), 0);
        Due.is("20: stairs", stairs().steps(), 4);
        Due.is("20: two", two().steps(), 2);
        Due.is("20: without answer", empty().steps(), NONE);
        Due.is("20: not proper", improper().steps(), STATE);
        LeastInBounds x = stairs();
        x.push(0, -9);
        Due.is("20: held but one", x.steps(), 1);
        x.change(3, 1, 0);
        Due.is("20: all held", x.steps(), 0);
        x.change(3, 2, 9);
        x.tide(1);
        Due.is("20: by bounds of now", x.steps(), 1);
    }

    private static void walk21() {
        LeastInBounds x = stairs();
        int[] due = {0, 1, 2, 4, 12};
        for (int k = 0; k < 5; k++) {
            Due.is("21: walk(" + k + ")", x.walk(k), due[k]);
        }
        for (int k : new int[] {5, 64, -1, LEAST_INT, MOST_INT}) {
            Due.is("21: walk(" + k + ")", x.walk(k), PLACE);
        }
        LeastInBounds y = empty();
        Due.is("21: without answer, walk(0)", y.walk(0), 0);
        Due.is("21: without answer, walk(1)", y.walk(1), 2);
        Due.is("21: without answer, walk(2)", y.walk(2), PLACE);
        Due.is("21: not proper", improper().walk(0), STATE);
        Due.is("21: not proper, no such", improper().walk(-1), STATE);
    }

    private static void pieces22() {
        Due.is("22: no lines", new LeastInBounds().pieces(40), 0);
        LeastInBounds x = new LeastInBounds();
        x.size(1);
        // x under 10 - T and under 20 - 3 T; least at 8.
        x.push(0, -8);
        addLine(x, UNDER, 10, -1, 1);
        addLine(x, UNDER, 20, -3, 1);
        // T 0 .. 2: none; 3, 4: line 0 at 7, 6 (line 1 at 11, 8); 5: both at 5; 6 on: line 1
        Due.is("22: to 2", x.pieces(2), 0);
        Due.is("22: to 3", x.pieces(3), 1);
        Due.is("22: to 5", x.pieces(5), 1);
        Due.is("22: to 6", x.pieces(6), 2);
        Due.is("22: to 40", x.pieces(40), 2);
        x.tide(30);
        Due.is("22: the tide of now does nothing", x.pieces(3), 1);
        Due.is("22: and stays", x.count(2), 30);
        addLine(x, OVER, -10, 0, 1);
        // T 10: line 1 at -10; T 11: no answer
        Due.is("22: to none", x.pieces(10), 2);
        Due.is("22: none is another number", x.pieces(11), 3);
        Due.is("22: and stays so", x.pieces(40), 3);
        for (int to : new int[] {0, 41, -1, LEAST_INT, MOST_INT}) {
            Due.is("22: pieces(" + to + ")", x.pieces(to), BAD);
        }
        LeastInBounds y = new LeastInBounds();
        addLine(y, OVER, -9, 9, 1, 0);
        addLine(y, OVER, -39, 1, 0, 1);
        // T 2: line 0 at 9; T 40: line 1 at 1 too
        Due.is("22: not yet at 1", y.pieces(1), 0);
        Due.is("22: from 2 on", y.pieces(39), 1);
        Due.is("22: all lines, at the last tide", y.pieces(40), 2);
        y.change(0, 1, 0);
        Due.is("22: at the first tide", y.pieces(1), 1);
        Due.is("22: not proper", improper().pieces(1), STATE);
        Due.is("22: not proper, and bad", improper().pieces(0), BAD);
    }

    private static void reach23() {
        LeastInBounds x = new LeastInBounds();
        x.size(1);
        x.push(0, -8);
        addLine(x, UNDER, 10, -1, 1);
        addLine(x, UNDER, 20, -3, 1);
        fraction("23: none, till line 0 at 2", x.reach(0), x.reach(1), 2, 1);
        x.tide(2);
        fraction("23: just there", x.reach(0), x.reach(1), 0, 1);
        x.tide(3);
        fraction("23: line 0, till line 1 at 5", x.reach(0), x.reach(1), 2, 1);
        x.tide(6);
        Due.refused("23: line 1 without end", x.reach(0), NONE);
        x.change(1, 2, 4);
        x.change(1, 1, -9);
        x.change(0, 2, 0);
        x.tide(2);
        // line 1: x under -9 + 4 T, so at -1; its weight is 0 at T = 17 / 4
        fraction("23: till the weight is 0", x.reach(0), x.reach(1), 9, 4);
        x.tide(40);
        Due.refused("23: the tide's own end is none", x.reach(1), NONE);
        onAndRefused23();
    }

    private static void onAndRefused23() {
        LeastInBounds x = new LeastInBounds();
        addLine(x, ON, 5, -1, 1, 0);
        Due.refused("23: ON may change its sign", x.reach(0), NONE);
        addLine(x, ON, 10, -2, 2, 0);
        Due.refused("23: the same line again", x.reach(0), NONE);
        x.change(1, 2, -1);
        fraction("23: a line that is on no more", x.reach(0), x.reach(1), 0, 1);
        x.change(1, 2, -3);
        fraction("23: the other way", x.reach(0), x.reach(1), 0, 1);
        x.change(1, 0, UNDER);
        fraction("23: under, and left at once", x.reach(0), x.reach(1), 0, 1);
        for (int part : new int[] {2, -1, LEAST_INT, MOST_INT}) {
            Due.refused("23: reach(" + part + ")", x.reach(part), BAD);
        }
        Due.refused("23: no answer", empty().reach(0), NONE);
        Due.refused("23: not proper", improper().reach(1), STATE);
        Due.refused("23: not proper, and bad", improper().reach(2), BAD);
    }

    private static void nearest24() {
        LeastInBounds x = improper();
        x.push(0, 77);
        addLine(x, UNDER, 5, 0, 1, 1);
        fraction("24: in the bounds, whatever the bowl", x.nearest(1, 2, 99, 0, 0), x.nearest(1, 2, 99, 0, 1), 1, 1);
        fraction("24: out of them", x.nearest(3, 3, -99, 0, 0), x.nearest(3, 3, -99, 0, 1), 5, 2);
        fraction("24: the other one", x.nearest(4, 3, 0, 1, 0), x.nearest(4, 3, 0, 1, 1), 2, 1);
        int[][] bad = {
            {100, 0, 0, 0, 0}, {-100, 0, 0, 0, 0}, {0, 100, 0, 0, 0}, {0, -100, 0, 0, 0}, {0, 0, 100, 0, 0}, {0, 0, -100, 0, 0},
            {0, 0, 0, 2, 0}, {0, 0, 0, -1, 0}, {0, 0, 0, 0, 2}, {0, 0, 0, 0, -1}, {LEAST_INT, 0, 0, 0, 0}, {0, 0, 0, MOST_INT, 0}
        };
        for (int[] b : bad) {
            Due.refused("24: nearest " + java.util.Arrays.toString(b), x.nearest(b[0], b[1], b[2], b[3], b[4]), BAD);
        }
        addLine(x, ON, 1, 3, 1, 0);
        x.tide(2);
        fraction("24: by bounds of now", x.nearest(0, 0, 0, 1, 0), x.nearest(0, 0, 0, 1, 1), -2, 1);
        addLine(x, ON, 1, 0, 1, 0);
        Due.refused("24: none", x.nearest(0, 0, 0, 0, 0), NONE);
        Due.is("24: bend stays", x.bend(0, 1, 0), 9);
        Due.is("24: push stays", x.push(0, 0), 77);
        x.size(3);
        fraction("24: of three", x.nearest(1, 2, -99, 2, 0), x.nearest(1, 2, -99, 2, 1), -99, 1);
    }

    private static void distance25() {
        LeastInBounds x = improper();
        addLine(x, UNDER, 5, 0, 1, 1);
        fraction("25: 0", x.distance(1, 2, 99, 0), x.distance(1, 2, 99, 1), 0, 1);
        fraction("25: 1 / 2", x.distance(3, 3, -99, 0), x.distance(3, 3, -99, 1), 1, 2);
        fraction("25: 2", x.distance(4, 3, 7, 0), x.distance(4, 3, 7, 1), 2, 1);
        addLine(x, ON, -99, 0, 1, 0);
        // x0 -99, x1 free up to 104
        fraction("25: far", x.distance(99, 99, 0, 0), x.distance(99, 99, 0, 1), 198 * 198, 1);
        int[][] bad = {
            {100, 0, 0, 0}, {-100, 0, 0, 0}, {0, 100, 0, 0}, {0, 0, -100, 0}, {0, 0, 0, 2}, {0, 0, 0, -1}, {0, MOST_INT, 0, 0}
        };
        for (int[] b : bad) {
            Due.refused("25: distance " + java.util.Arrays.toString(b), x.distance(b[0], b[1], b[2], b[3]), BAD);
        }
        addLine(x, OVER, 0, 0, 1, 0);
        Due.refused("25: none", x.distance(0, 0, 0, 0), NONE);
        x.size(3);
        addLine(x, ON, 3, 0, 1, 1, 1);
        fraction("25: of three", x.distance(2, 2, 0, 0), x.distance(2, 2, 0, 1), 1, 3);
    }

    private static void certify26() {
        LeastInBounds x = two();
        x.sheet(3, 0, 2);
        Due.is("26: two", x.certify(3), 5);
        sheetIs("26: two", x, 3, 3, 2, 2, 2, 1);
        Due.is("26: it is right", x.check(3), 0);
        Due.is("26: it is of longs", x.cell(3, 0, 1L << 40), 1);
        x.change(1, 1, -9);
        x.change(0, 1, 4);
        // x0 + x1 = 4: (3 / 2, 5 / 2), weight 3 / 2, and none of line 1
        Due.is("26: halves", x.certify(3), 5);
        sheetIs("26: halves", x, 3, 3, 5, 3, 0, 2);
        x.bend(0, 0, 3);
        // Q = (3, 1): from (1, 4) on by (1 / 3, 1), x0 + x1 = 4: y = 1 / (4 / 3)
        Due.is("26: quarters", x.certify(0), 5);
        sheetIs("26: quarters", x, 0, 3, 13, 3, 0, 4);
        x.push(0, 0);
        x.push(1, 0);
        Due.is("26: zero", x.certify(0), 5);
        sheetIs("26: zero", x, 0, 0, 0, 0, 0, 1);
        for (int s : new int[] {4, -1, LEAST_INT, MOST_INT}) {
            Due.is("26: certify(" + s + ")", x.certify(s), BAD);
        }
        x.size(1);
        x.bend(0, 0, 6);
        x.push(0, -4);
        Due.is("26: thirds", x.certify(0), 2);
        sheetIs("26: thirds", x, 0, 2, 3);
        x.push(0, -3);
        addLine(x, ON, 4, 0, 2);
        // 2 x = 4, and 12 - 3 + 2 y = 0
        Due.is("26: a weight of halves", x.certify(0), 3);
        sheetIs("26: a weight of halves", x, 0, 4, -9, 2);
        LeastInBounds y = empty();
        y.sheet(1, 0, 3);
        Due.is("26: none", y.certify(1), NONE);
        Due.refused("26: none changes nothing", y.read(1, 3), PLACE);
        Due.is("26: not proper", improper().certify(0), STATE);
        Due.is("26: not proper, and bad", improper().certify(4), BAD);
        LeastInBounds z = new LeastInBounds();
        z.size(3);
        for (int k = 0; k < 6; k++) {
            addLine(z, UNDER, 1, 0, 1, 0, 0);
        }
        Due.is("26: the longest", z.certify(2), 10);
    }

    private static void checked(String what, LeastInBounds x, int due, long... numbers) {
        fill(x, 0, numbers);
        Due.is("27: " + what, x.check(0), due);
    }

    private static void check27() {
        LeastInBounds x = two();
        checked("right", x, 0, 3, 2, 2, 2, 1);
        checked("right, all tripled", x, 0, 9, 6, 6, 6, 3);
        checked("D is 0", x, 1, 3, 2, 2, 2, 0);
        checked("D is below 0", x, 1, -3, -2, -2, -2, -1);
        checked("D is 0, all 0", x, 1, 0, 0, 0, 0, 0);
        checked("no balance in x0", x, 2, 4, 2, 2, 2, 1);
        checked("no balance in x1", x, 2, 3, 3, 2, 2, 1);
        checked("D out of balance", x, 2, 3, 2, 2, 2, 2);
        // (1, 0): line 0 weighs 4, line 1: 1 - 3 + 4 - y = 0
        checked("line 1 isn't held", x, 4, 1, 0, 4, 2, 1);
        // (4, 5): line 0 weighs -1, line 1 0
        checked("a weight below 0", x, 3, 4, 5, -1, 0, 1);
        x.change(0, 1, 6);
        // (3, 3) is due; (3, 2) still balances, but leaves slack 1 in line 0.
        checked("a weight where there is slack", x, 5, 3, 2, 2, 2, 1);
        x.change(0, 0, ON);
        checked("ON isn't held from below", x, 4, 3, 2, 2, 2, 1);
        x.change(0, 1, 9);
        x.change(1, 1, 0);
        // (4, 5) by ON of weight -1
        checked("ON may weigh below 0", x, 0, 4, 5, -1, 0, 1);
        x.change(0, 1, 0);
        x.change(0, 2, 9);
        x.tide(1);
        checked("by bounds of now", x, 0, 4, 5, -1, 0, 1);
        x.tide(2);
        checked("by bounds of then", x, 4, 4, 5, -1, 0, 1);
        refused27(x);
        // Not proper, and still right: Q (1, 9; 9, 1) at 0.
        Due.is("27: certificates need no proper bowl", plainCheck(improper(), 0, 0, 1), 0);
        Due.is("27: where bent across", plainCheck(improper(), 1, 0, 1), 2);
    }

    private static int plainCheck(LeastInBounds x, long... numbers) {
        fill(x, 0, numbers);
        return x.check(0);
    }

    private static void refused27(LeastInBounds x) {
        for (int s : new int[] {4, -1, LEAST_INT, MOST_INT}) {
            Due.is("27: check(" + s + ")", x.check(s), BAD);
        }
        Due.is("27: missing", x.check(1), NOTHING);
        checked("one too few", x, SIZE, 3, 2, 2, 2);
        checked("one too many", x, SIZE, 3, 2, 2, 2, 1, 0);
        checked("none", x, SIZE);
        checked("too few and too far", x, SIZE, 1000000000001L);
        checked("too far above", x, MUCH, 1000000000001L, 0, 0, 0, 0);
        checked("too far below", x, MUCH, 0, 0, 0, 0, -1000000000001L);
        checked("the least long", x, MUCH, 0, 0, Long.MIN_VALUE, 0, 1);
        checked("as far as may be, D 0", x, 1, 1000000000000L, -1000000000000L, 0, 0, 0);
        checked("as far as may be", x, 2, 1000000000000L, -1000000000000L, 1000000000000L, -1000000000000L, 1000000000000L);
        x.sheet(2, 0, 5);
        Due.is("27: ints will do", x.check(2), 1);
    }

    private static void solve28() {
        LeastInBounds x = two();
        Due.is("28: solve", x.solve(), 3);
        Due.is("28: noted", x.notes(), 1);
        x.bend(0, 1, 9);
        Due.is("28: not proper", x.solve(), STATE);
        Due.is("28: not noted", x.notes(), 1);
        Due.is("28: no mark of it", x.mark(), 3);
        x.bend(0, 1, 0);
        x.working(3);
        Due.is("28: working notes nothing", x.notes(), 1);
        LeastInBounds y = empty();
        Due.is("28: none", y.solve(), NONE);
        Due.is("28: none is noted", y.notes(), 1);
        Due.is("28: the mark of none", y.mark(), -1);
        Due.is("28: the trail of none", y.trail(0), NONE);
        Due.refused("28: none is not the least", y.least(0), NONE);
    }

    private static void book29To32() {
        LeastInBounds x = stairs();
        int[] answers = {12, 12, 8, 8, 0, 0, 0, 0, 0, 12};
        long mark = 0;
        for (int k = 0; k < 10; k++) {
            x.push(0, k == 2 ? -3 : k == 9 ? 0 : k < 2 ? 0 : -9);
            x.push(1, k >= 4 && k < 9 ? -1 : 0);
            Due.is("29: solve " + k, x.solve(), answers[k]);
            mark = mark * 31 + answers[k];
            Due.is("29: notes", x.notes(), k + 1);
            Due.is("30: mark", x.mark(), mark);
            for (int back = 0; back < 8; back++) {
                Due.is("31: trail(" + back + ")", x.trail(back), back > k ? PLACE : answers[k - back]);
            }
        }
        for (int k : new int[] {8, 9, -1, LEAST_INT, MOST_INT}) {
            Due.is("31: trail(" + k + ")", x.trail(k), PLACE);
        }
        // The least was with pushes (-9, -1): -81 / 2 - 1 / 2
        fraction("32: least", x.least(0), x.least(1), -41, 1);
        for (int part : new int[] {2, -1, LEAST_INT, MOST_INT}) {
            Due.refused("32: least(" + part + ")", x.least(part), BAD);
        }
        marksWrapAround30();
        leastOfFractions32();
    }

    private static void marksWrapAround30() {
        LeastInBounds x = two();
        long mark = 0;
        for (int k = 0; k < 60; k++) {
            x.solve();
            mark = mark * 31 + 3;
        }
        Due.is("30: it wraps around", x.mark(), mark);
        Due.is("29: sixty notes", x.notes(), 60);
        Due.is("31: the last but 7", x.trail(7), 3);
    }

    private static void leastOfFractions32() {
        LeastInBounds x = new LeastInBounds();
        Due.refused("32: none yet", x.least(1), NONE);
        Due.refused("32: none yet, and bad", x.least(2), BAD);
        x.size(1);
        x.bend(0, 0, 7);
        x.push(0, 3);
        x.solve();
        fraction("32: -9 / 14", x.least(0), x.least(1), -9, 14);
        x.bend(0, 0, 8);
        x.solve();
        fraction("32: -9 / 16 is more", x.least(0), x.least(1), -9, 14);
        x.bend(0, 0, 6);
        x.solve();
        fraction("32: -3 / 4 is less", x.least(0), x.least(1), -3, 4);
        x.bend(0, 0, 12);
        x.push(0, 4);
        x.solve();
        fraction("32: -2 / 3 is more", x.least(0), x.least(1), -3, 4);
        x.bend(0, 0, 5);
        x.push(0, 3);
        x.solve();
        fraction("32: -9 / 10 is less", x.least(0), x.least(1), -9, 10);
        x.bend(0, 0, 13);
        x.push(0, 5);
        x.solve();
        fraction("32: -25 / 26 is less", x.least(0), x.least(1), -25, 26);
        x.bend(0, 0, 8);
        x.push(0, 4);
        x.solve();
        fraction("32: -1 is less", x.least(0), x.least(1), -1, 1);
        x.bend(0, 0, 9);
        x.solve();
        fraction("32: -8 / 9 is more", x.least(0), x.least(1), -1, 1);
        x.bend(0, 0, 7);
        x.solve();
        fraction("32: -8 / 7 is less", x.least(0), x.least(1), -8, 7);
        x.solve();
        fraction("32: the same again", x.least(0), x.least(1), -8, 7);
        x.bend(0, 0, 4);
        x.solve();
        fraction("32: -2 is less", x.least(0), x.least(1), -2, 1);
        addLine(x, ON, 50, 0, 1);
        x.solve();
        fraction("32: far more", x.least(0), x.least(1), -2, 1);
    }

    /** Asked of the object made last alone: NOTES.md says what the others don't answer as they should. */
    private static void bookOfTheLast() {
        LeastInBounds first = two();
        first.solve();
        first.solve();
        LeastInBounds second = stairs();
        Due.is("1: notes begin anew", second.notes(), 0);
        Due.is("1: the mark begins anew", second.mark(), 0);
        Due.is("1: the trail begins anew", second.trail(0), PLACE);
        Due.refused("1: the least begins anew", second.least(0), NONE);
        second.solve();
        Due.is("29: one note", second.notes(), 1);
        Due.is("30: its mark", second.mark(), 12);
        Due.is("31: its trail", second.trail(0), 12);
        Due.is("31: no more of it", second.trail(1), PLACE);
        fraction("32: its least, not what was less before", second.least(0), second.least(1), 5, 1);
        second.size(1);
        Due.is("29: a new size leaves the book", second.notes(), 1);
        second.image();
        second.solve();
        second.back();
        Due.is("29: an image keeps no book", second.notes(), 2);
        Due.is("31: nor a trail", second.trail(1), 12);
    }

    private static void sheet33() {
        LeastInBounds x = new LeastInBounds();
        Due.is("33: ints", x.sheet(0, 0, 12), 1);
        Due.is("33: longs", x.sheet(3, 1, 0), 1);
        x.cell(0, 5, 7);
        Due.is("33: anew", x.sheet(0, 0, 6), 1);
        sheetIs("33: all 0", x, 0, 0, 0, 0, 0, 0, 0);
        Due.refused("33: an empty row", x.read(3, 0), PLACE);
        int[][] bad = {{4, 0, 1}, {-1, 0, 1}, {0, 2, 1}, {0, -2, 1}, {0, 0, 13}, {0, 1, MOST_INT}, {4, 0, -1}, {0, 2, -1}, {LEAST_INT, 0, 1}, {0, MOST_INT, 1}};
        for (int[] b : bad) {
            Due.is("33: sheet(" + b[0] + ", " + b[1] + ", " + b[2] + ")", x.sheet(b[0], b[1], b[2]), BAD);
        }
        Due.is("33: n below 0", x.sheet(0, 0, -1), SIZE);
        Due.is("33: n far below 0", x.sheet(0, 1, LEAST_INT), SIZE);
        Due.is("33: it stays", x.read(0, 5), 0);
        Due.is("33: missing, n above 12", x.sheet(0, -1, 13), 1);
        Due.refused("33: it is missing", x.read(0, 0), NOTHING);
        Due.is("33: missing, n below 0", x.sheet(3, -1, -1), 1);
        Due.is("33: missing, and bad", x.sheet(4, -1, 0), BAD);
    }

    private static void cell34() {
        LeastInBounds x = new LeastInBounds();
        x.sheet(0, 0, 3);
        x.sheet(1, 1, 3);
        Due.is("34: an int", x.cell(0, 2, 2147483647L), 1);
        Due.is("34: the least int", x.cell(0, 1, -2147483648L), 1);
        Due.is("34: no int", x.cell(0, 0, 2147483648L), MUCH);
        Due.is("34: no int either", x.cell(0, 0, -2147483649L), MUCH);
        Due.is("34: a long", x.cell(1, 0, Long.MAX_VALUE), 1);
        sheetIs("34: ints", x, 0, 0, -2147483648L, 2147483647L);
        sheetIs("34: longs", x, 1, Long.MAX_VALUE, 0, 0);
        for (int i : new int[] {3, -1, LEAST_INT, MOST_INT}) {
            Due.is("34: cell(0, " + i + ")", x.cell(0, i, 0), PLACE);
            Due.is("34: missing, cell(2, " + i + ")", x.cell(2, i, 0), NOTHING);
        }
        Due.is("34: place before much", x.cell(0, 3, Long.MIN_VALUE), PLACE);
        for (int s : new int[] {4, -1, LEAST_INT, MOST_INT}) {
            Due.is("34: cell(" + s + ", 0)", x.cell(s, 0, 0), BAD);
        }
    }

    private static void read35() {
        LeastInBounds x = new LeastInBounds();
        x.sheet(2, 1, 12);
        x.cell(2, 11, Long.MIN_VALUE);
        Due.is("35: the last", x.read(2, 11), Long.MIN_VALUE);
        Due.is("35: the first", x.read(2, 0), 0);
        for (int i : new int[] {12, -1, LEAST_INT, MOST_INT}) {
            Due.refused("35: read(2, " + i + ")", x.read(2, i), PLACE);
            Due.refused("35: missing, read(1, " + i + ")", x.read(1, i), NOTHING);
        }
        for (int s : new int[] {4, -1, LEAST_INT, MOST_INT}) {
            Due.refused("35: read(" + s + ", 0)", x.read(s, 0), BAD);
        }
    }

    private static void copy36() {
        LeastInBounds x = new LeastInBounds();
        fill(x, 0, 1, 2, 3, 4, 5);
        x.sheet(1, 1, 4);
        x.sheet(2, 0, 4);
        Due.is("36: to another", x.copy(0, 1, 1, 2, 2), 2);
        sheetIs("36: to another", x, 1, 0, 0, 2, 3);
        Due.is("36: to itself, upwards", x.copy(0, 0, 0, 1, 4), 4);
        sheetIs("36: as they were", x, 0, 1, 1, 2, 3, 4);
        Due.is("36: to itself, downwards", x.copy(0, 2, 0, 0, 3), 3);
        sheetIs("36: as they were", x, 0, 2, 3, 4, 3, 4);
        Due.is("36: none", x.copy(0, 5, 1, 4, 0), 0);
        int[][] places = {
            {0, 0, 1, 0, -1}, {0, -1, 1, 0, 1}, {0, 0, 1, -1, 1}, {0, 0, 1, 0, 5}, {0, 2, 1, 0, 4}, {0, 0, 1, 2, 3},
            {0, 6, 1, 0, 0}, {0, 0, 1, 5, 0}, {0, -1, 1, 0, 0}, {0, MOST_INT, 1, 0, MOST_INT}, {0, 1, 1, 1, MOST_INT},
            {0, 0, 1, 0, LEAST_INT}, {0, LEAST_INT, 1, 0, 1}, {0, 0, 1, MOST_INT, 1}
        };
        for (int[] p : places) {
            Due.is("36: copy " + java.util.Arrays.toString(p), x.copy(p[0], p[1], p[2], p[3], p[4]), PLACE);
        }
        sheetIs("36: refused ones change nothing", x, 1, 0, 0, 2, 3);
        Due.is("36: unlike sorts", x.copy(0, 0, 2, 0, 1), KIND);
        Due.is("36: unlike sorts, no place", x.copy(2, 0, 0, 0, -1), KIND);
        Due.is("36: one is missing", x.copy(0, 0, 3, 0, 0), NOTHING);
        Due.is("36: the other is missing", x.copy(3, 0, 2, 0, -1), NOTHING);
        for (int s : new int[] {4, -1, LEAST_INT, MOST_INT}) {
            Due.is("36: from " + s, x.copy(s, 0, 3, 0, 0), BAD);
            Due.is("36: to " + s, x.copy(3, 0, s, 0, 0), BAD);
        }
        x.cell(2, 3, -7);
        x.sheet(3, 0, 2);
        Due.is("36: ints", x.copy(2, 3, 3, 0, 1), 1);
        sheetIs("36: ints", x, 3, -7, 0);
    }

    private static void imageAndBack37And38() {
        LeastInBounds x = two();
        x.tide(9);
        x.bend(0, 1, 1);
        x.bend(1, 1, 2);
        x.slope(1, 2, 5);
        Due.is("38: no image", x.back(), STATE);
        Due.is("37: image", x.image(), 2);
        x.sheet(0, 1, 2);
        x.size(3);
        addLine(x, ON, 1, 1, 1, 1, 1);
        x.push(2, 4);
        Due.is("38: back", x.back(), 2);
        Due.is("38: VARIABLES", x.count(0), 2);
        Due.is("38: T", x.count(2), 9);
        Due.is("38: q(0, 1)", x.bend(1, 0, 0), 1);
        Due.is("38: q(1, 1)", x.bend(1, 1, 1), 2);
        Due.is("38: c(1)", x.push(1, 0), -4);
        Due.is("38: KIND", x.change(1, 0, ON), OVER);
        Due.is("38: b", x.change(1, 1, 0), 3);
        Due.is("38: a(2)", x.slope(1, 2, 0), 5);
        Due.is("38: sheets are no part of it", x.read(0, 1), 0);
        Due.is("38: once more", x.back(), 2);
        Due.is("38: the image is no other for it", x.bend(0, 1, 1), 1);
        Due.is("38: nor its lines", x.lineOf(1, 0), OVER);
        x.drop(0);
        Due.is("37: another image", x.image(), 1);
        x.line(UNDER, 0, 0);
        Due.is("38: back to the other", x.back(), 1);
        Due.is("38: its line", x.lineOf(0, 1), 3);
        x.size(1);
        Due.is("37: of none", x.image(), 0);
        Due.is("38: an image is its object's own", new LeastInBounds().back(), STATE);
    }

    private static void count39() {
        LeastInBounds x = two();
        x.tide(17);
        addLine(x, ON, 1, 0, 1);
        addLine(x, TWICE, 1, 0, 1);
        addLine(x, ON, 1, 0, 1);
        Due.is("39: VARIABLES", x.count(0), 2);
        Due.is("39: LINES", x.count(1), 5);
        Due.is("39: T", x.count(2), 17);
        Due.is("39: ON", x.count(3), 2);
        x.drop(4);
        Due.is("39: ON, one dropped", x.count(3), 1);
        x.change(0, 0, ON);
        Due.is("39: ON, the first", x.count(3), 2);
        x.change(0, 0, UNDER);
        x.change(2, 0, APART);
        Due.is("39: ON, one changed", x.count(3), 0);
        for (int what : new int[] {4, -1, LEAST_INT, MOST_INT}) {
            Due.is("39: count(" + what + ")", x.count(what), BAD);
        }
    }
}

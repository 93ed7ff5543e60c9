/** Boundary cases of promises 26 and 27: certificates. */
final class BoundsOfCertificates extends Samples {
    private BoundsOfCertificates() {
    }

    static void tell(Sentences told) {
        told.under("Promise 26: certify");
        told.has("A SHEET becomes a row of longs", BoundsOfCertificates::whateverTheSheetWas);
        told.has("with the least D: how many numbers.", BoundsOfCertificates::leastBelow);
        told.has("BAD", BoundsOfCertificates::badCertify);
        told.has("STATE", BoundsOfCertificates::stateOfCertify);
        told.has("NONE.", BoundsOfCertificates::noCertificate);
        told.under("Promise 27: check");
        told.has("0; else the number of the first of (1) .. (5) that isn't so.", BoundsOfCertificates::firstThatIsNotSo);
        told.has("BAD: sheet", BoundsOfCertificates::badCheck);
        told.has("NOTHING", BoundsOfCertificates::nothingToCheck);
        told.has("SIZE: it hasn't just as many numbers", BoundsOfCertificates::notAsMany);
        told.has("MUCH: one is too far from 0.", BoundsOfCertificates::tooFar);
    }

    private static void whateverTheSheetWas() {
        for (int s = 0; s <= 3; s++) {
            LeastInBounds x = furnishedTwo();
            Due.is("how many", x.certify(s), 5);
            sheetIs("sheet " + s, x, s, 3, 2, 2, 2, 1);
            Due.is("of longs", x.cell(s, 4, 1L << 40), 1);
            for (int other = 0; other <= 3; other++) {
                if (other != s) {
                    Due.is("no other one", x.read(other, 0), furnished().read(other, 0));
                    Due.is("to its last place", x.read(other, 4), furnished().read(other, 4));
                }
            }
        }
    }

    private static void leastBelow() {
        LeastInBounds x = new LeastInBounds();
        x.size(1);
        Due.is("the fewest", x.certify(0), 2);
        sheetIs("all 0", x, 0, 0, 1);
        x.bend(0, 0, 20);
        x.push(0, 15);
        Due.is("a fraction", x.certify(0), 2);
        sheetIs("a fraction", x, 0, -3, 4);
        x.size(2);
        x.bend(0, 0, 4);
        x.bend(1, 1, 6);
        x.push(0, -1);
        x.push(1, -1);
        Due.is("two unlike ones", x.certify(0), 3);
        sheetIs("1 / 4, 1 / 6", x, 0, 3, 2, 12);
        addLine(x, ON, 1, 0, 4, 0);
        addLine(x, OVER, 2, 0, 0, 9);
        // x1 is 2 / 9: 12 / 9 - 1 = 9 y
        Due.is("a weight's is the longest", x.certify(0), 5);
        sheetIs("1 / 4, 2 / 9, 1 / 27", x, 0, 27, 24, 0, 4, 108);
        x.size(1);
        x.bend(0, 0, 6);
        x.push(0, -3);
        addLine(x, ON, 4, 0, 2);
        // x is 2: 12 - 3 + 2 y = 0
        Due.is("a weight alone is no whole number", x.certify(0), 3);
        sheetIs("2, -9 / 2", x, 0, 4, -9, 2);
        LeastInBounds z = new LeastInBounds();
        z.size(3);
        for (int l = 0; l < 6; l++) {
            addLine(z, OVER, l, 0, 1, 0, 0);
        }
        Due.is("the most", z.certify(3), 10);
        sheetIs("the most", z, 3, 5, 0, 0, 0, 0, 0, 0, 0, 5, 1);
    }

    private static void badCertify() {
        Refused.ints(BAD, Samples::furnishedTwo, x -> x.certify(4), x -> x.certify(-1), x -> x.certify(LEAST_INT), x -> x.certify(MOST_INT));
        Due.is("the first", two().certify(0), 5);
        Due.is("the last", two().certify(3), 5);
    }

    private static void stateOfCertify() {
        Refused.ints(STATE, Samples::furnishedImproper, x -> x.certify(0), x -> x.certify(2), x -> x.certify(3));
    }

    private static void noCertificate() {
        Refused.ints(NONE, Samples::furnishedEmpty, x -> x.certify(0), x -> x.certify(2), x -> x.certify(3));
        LeastInBounds x = empty();
        x.change(0, 1, 2);
        Due.is("one place is left", x.certify(0), 5);
        sheetIs("one place is left", x, 0, 2, 0, 0, 2, 1);
    }

    private static int checked(LeastInBounds x, long... numbers) {
        fill(x, 0, numbers);
        return x.check(0);
    }

    private static void firstThatIsNotSo() {
        // Least at 2; line 0: x under 1, line 1: x over -5.
        LeastInBounds x = new LeastInBounds();
        x.size(1);
        x.push(0, -2);
        addLine(x, UNDER, 1, 0, 1);
        addLine(x, OVER, -5, 0, 1);
        // X - 2 D + Y0 - Y1 is 0, Y are 0 or more, X is -5 D .. D, and Y0 is 0 unless X is D.
        Due.is("all are so", checked(x, 1, 1, 0, 1), 0);
        Due.is("none is", checked(x, 9, -9, 9, 0), 1);
        Due.is("(1) alone isn't", checked(x, 0, 0, 0, 0), 1);
        Due.is("(2) to (5) aren't", checked(x, 9, -9, 9, 1), 2);
        Due.is("(3) to (5) aren't", checked(x, 9, -7, 0, 1), 3);
        Due.is("(4), (5) aren't", checked(x, 2, 1, 1, 1), 4);
        Due.is("(4) alone isn't", checked(x, 2, 0, 0, 1), 4);
        Due.is("(5) isn't", checked(x, 0, 2, 0, 1), 5);
        Due.is("(5) isn't, of the last line", checked(x, 1, 2, 1, 1), 5);
        x.size(2);
        x.bend(0, 1, 9);
        Due.is("a bowl that isn't PROPER", checked(x, 0, 0, 1), 0);
        firstOfSixLines();
    }

    private static void firstOfSixLines() {
        LeastInBounds x = new LeastInBounds();
        x.size(1);
        x.push(0, -2);
        for (int l = 0; l < 6; l++) {
            addLine(x, UNDER, 3, 0, 1);
        }
        Due.is("all are so", checked(x, 2, 0, 0, 0, 0, 0, 0, 1), 0);
        Due.is("(5) isn't, of the sixth", checked(x, 1, 0, 0, 0, 0, 0, 1, 1), 5);
        x.change(5, 1, 2);
        Due.is("the sixth is just held", checked(x, 2, 0, 0, 0, 0, 0, 0, 1), 0);
        x.change(5, 1, 1);
        Due.is("(4) isn't, of the sixth", checked(x, 2, 0, 0, 0, 0, 0, 0, 1), 4);
        Due.is("the sixth does it", checked(x, 1, 0, 0, 0, 0, 0, 1, 1), 0);
        x.drop(5);
        Due.is("it is no more", checked(x, 2, 0, 0, 0, 0, 0, 1), 0);
        Due.is("(3) isn't, of the fifth", checked(x, 3, 0, 0, 0, 0, -1, 1), 3);
    }

    private static void badCheck() {
        Refused.ints(BAD, Samples::furnishedTwo, x -> x.check(4), x -> x.check(-1), x -> x.check(LEAST_INT), x -> x.check(MOST_INT));
        Due.is("the first", two().check(0), NOTHING);
        Due.is("the last", two().check(3), NOTHING);
    }

    private static void nothingToCheck() {
        Refused.ints(NOTHING, Samples::furnishedTwo, x -> x.check(3));
        LeastInBounds x = two();
        for (int s = 0; s <= 3; s++) {
            Due.is("missing at first", x.check(s), NOTHING);
            x.certify(s);
            Due.is("there", x.check(s), 0);
            x.sheet(s, MISSING, 5);
            Due.is("missing again", x.check(s), NOTHING);
        }
    }

    private static void notAsMany() {
        Refused.ints(SIZE, Samples::furnishedTwo, x -> x.check(1), x -> x.check(2));
        for (int n = 1; n <= 3; n++) {
            for (int lines = 0; lines <= 6; lines++) {
                LeastInBounds x = furnishedOfSize(n);
                for (int l = 0; l < lines; l++) {
                    x.line(UNDER, 0, 0);
                }
                int due = n + lines + 1;
                for (int length = 0; length <= 12; length++) {
                    x.sheet(0, length % 2, length);
                    Due.is(length + " for " + due, x.check(0), length == due ? 1 : SIZE);
                }
            }
        }
    }

    private static void tooFar() {
        LeastInBounds x = two();
        for (int k = 0; k < 5; k++) {
            fill(x, 0, 3, 2, 2, 2, 1);
            x.cell(0, k, FAR + 1);
            Due.is("too far above, number " + k, x.check(0), MUCH);
            x.cell(0, k, -FAR - 1);
            Due.is("too far below, number " + k, x.check(0), MUCH);
            x.cell(0, k, Long.MAX_VALUE);
            Due.is("the most, number " + k, x.check(0), MUCH);
            x.cell(0, k, Long.MIN_VALUE);
            Due.is("the least, number " + k, x.check(0), MUCH);
            x.cell(0, k, FAR);
            Due.is("as far above as may be, number " + k, x.check(0), 2);
            x.cell(0, k, -FAR);
            Due.is("as far below as may be, number " + k, x.check(0), k == 4 ? 1 : 2);
        }
        long third = FAR / 3;
        Due.is("as far as may be, and right", checked(x, 3 * third, 2 * third, 2 * third, 2 * third, third), 0);
        Due.is("D as far as may be, and right", checked(new LeastInBounds(), 0, 0, FAR), 0);
        Refused.ints(MUCH, BoundsOfCertificates::farOff, y -> y.check(0));
    }

    private static LeastInBounds farOff() {
        LeastInBounds x = furnishedTwo();
        fill(x, 0, FAR + 1, 2, 2, 2, 1);
        return x;
    }
}

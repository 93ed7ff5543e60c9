/** Words and objects that the tests share: a test class extends it to have them at hand. */
abstract class Samples {
    static final int NONE = LeastInBounds.NONE, BAD = LeastInBounds.BAD, STATE = LeastInBounds.STATE;
    static final int FULL = LeastInBounds.FULL, MUCH = LeastInBounds.MUCH, NOTHING = LeastInBounds.NOTHING;
    static final int PLACE = LeastInBounds.PLACE, KIND = LeastInBounds.KIND, SIZE = LeastInBounds.SIZE;
    static final int UNDER = 0, OVER = 1, ON = 2, TWICE = 3, APART = 4;
    static final int MISSING = -1, INTS = 0, LONGS = 1;
    static final int LEAST_INT = Integer.MIN_VALUE, MOST_INT = Integer.MAX_VALUE;
    static final long FAR = 1000000000000L;

    static void fraction(String what, long above, long below, long wantAbove, long wantBelow) {
        Due.is(what + ", above", above, wantAbove);
        Due.is(what + ", below", below, wantBelow);
    }

    static void sheetIs(String what, LeastInBounds x, int s, long... due) {
        for (int k = 0; k < due.length; k++) {
            Due.is(what + ", place " + k, x.read(s, k), due[k]);
        }
        Due.refused(what + ", no more", x.read(s, due.length), PLACE);
    }

    static void addLine(LeastInBounds x, int kind, int b, int d, int... slopes) {
        int l = x.line(kind, b, d);
        for (int i = 0; i < slopes.length; i++) {
            x.slope(l, i, slopes[i]);
        }
    }

    static void fill(LeastInBounds x, int s, long... numbers) {
        x.sheet(s, LONGS, numbers.length);
        for (int k = 0; k < numbers.length; k++) {
            x.cell(s, k, numbers[k]);
        }
    }

    /** A round bowl, least at (3, 4); line 0: x(0) + x(1) under 5; line 1: x(0) over 3. */
    static LeastInBounds two() {
        return two(new LeastInBounds());
    }

    static LeastInBounds two(LeastInBounds x) {
        x.size(2);
        x.push(0, -3);
        x.push(1, -4);
        addLine(x, UNDER, 5, 0, 1, 1);
        addLine(x, OVER, 3, 0, 1, 0);
        return x;
    }

    /** Two lines that no place holds both: x(0) under 1, x(0) over 2. */
    static LeastInBounds empty() {
        return empty(new LeastInBounds());
    }

    static LeastInBounds empty(LeastInBounds x) {
        x.size(2);
        addLine(x, UNDER, 1, 0, 1);
        addLine(x, OVER, 2, 0, 1);
        return x;
    }

    /** A bowl that isn't proper: minor 2 is 1 - 81. */
    static LeastInBounds improper() {
        return bentTooFar(new LeastInBounds());
    }

    static LeastInBounds bentTooFar(LeastInBounds x) {
        x.bend(0, 1, 9);
        return x;
    }

    /** Least at (0, 0): x(0) over 1, 2, 3 one behind the other, then x(1) over 1. */
    static LeastInBounds stairs() {
        LeastInBounds x = new LeastInBounds();
        addLine(x, OVER, 1, 0, 1, 0);
        addLine(x, OVER, 2, 0, 1, 0);
        addLine(x, OVER, 3, 0, 1, 0);
        addLine(x, OVER, 1, 0, 0, 1);
        return x;
    }

    /**
     * Two variables, as at first, and something of all else: two notes, an image (one variable, a
     * line, tide 5), sheet 0 of five ints, 1 of twelve longs, 2 an empty row of longs, 3 missing.
     */
    static LeastInBounds furnished() {
        LeastInBounds x = new LeastInBounds();
        x.size(1);
        x.bend(0, 0, 4);
        x.push(0, 6);
        x.tide(5);
        addLine(x, ON, 3, 1, 2);
        x.solve();
        x.image();
        x.size(2);
        x.solve();
        x.sheet(0, INTS, 5);
        x.sheet(1, LONGS, 12);
        x.sheet(2, LONGS, 0);
        for (int i = 0; i < 5; i++) {
            x.cell(0, i, 10 + i);
            x.cell(1, 2 * i, 1L << 40 + i);
        }
        return x;
    }

    /** Three variables, six lines of all kinds (no place holds them all); nothing is as at first. */
    static LeastInBounds full() {
        LeastInBounds x = furnished();
        x.size(3);
        for (int i = 0; i < 3; i++) {
            x.bend(i, i, 18 + i);
            x.bend(i, (i + 1) % 3, i - 4);
            x.push(i, 7 - 9 * i);
        }
        x.tide(40);
        for (int l = 0; l < 6; l++) {
            addLine(x, l % 5, 50 - l, l - 3, l - 2, 5 - l, l + 1);
        }
        return x;
    }

    static LeastInBounds furnishedOfSize(int n) {
        LeastInBounds x = furnished();
        x.size(n);
        return x;
    }

    static LeastInBounds furnishedTwo() {
        return two(furnished());
    }

    static LeastInBounds furnishedEmpty() {
        return empty(furnished());
    }

    static LeastInBounds furnishedImproper() {
        return bentTooFar(furnishedTwo());
    }
}

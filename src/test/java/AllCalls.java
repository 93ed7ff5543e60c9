/** Every call of the face but size, on a full object: for tests of what calls leave behind. */
final class AllCalls {
    private AllCalls() {
    }

    /** Six lines of all kinds, three of which do it, before askAll and behind it. */
    static LeastInBounds fullObject() {
        LeastInBounds x = new LeastInBounds();
        x.size(3);
        int[][] slopes = {{9, -8, 7}, {-6, 5, 4}, {3, 2, -1}, {-9, 9, -2}, {1, -3, 5}, {7, 7, 7}};
        int[] bases = {15, 15, -22, 4, -9, 5};
        for (int l = 0; l < 6; l++) {
            x.line(l % 5, bases[l], l - 3);
            for (int i = 0; i < 3; i++) {
                x.slope(l, i, slopes[l][i]);
            }
        }
        x.sheet(1, 1, 12);
        return x;
    }

    static long askAll(LeastInBounds x) {
        long sum = x.bend(0, 0, 3) + x.push(0, 4) + x.tide(2) + x.line(0, 0, 0) + x.slope(0, 0, 9) + x.change(0, 1, 5);
        sum += x.lineOf(0, 3) + x.minor(3) + x.isProper() + x.working(63) + x.answer(31, 0, 0) + x.worth(7, 1);
        sum += x.weight(3, 0, 0) + x.slack(5, 2, 1) + x.held(9) + x.tight(11) + x.steps() + x.walk(1) + x.pieces(40);
        sum += x.reach(0) + x.nearest(1, 2, 3, 0, 0) + x.distance(4, 5, 6, 0) + x.certify(0) + x.check(0) + x.solve();
        sum += x.notes() + x.mark() + x.trail(0) + x.least(0) + x.sheet(2, 0, 12) + x.cell(1, 2, 3) + x.read(1, 2);
        sum += x.copy(1, 0, 1, 3, 4) + x.image() + x.drop(5) + x.back() + x.count(3);
        return sum;
    }
}

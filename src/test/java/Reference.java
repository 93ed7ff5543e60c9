import java.util.ArrayList;
import java.util.List;

/**
 * The document, done by its words with exact fractions and no thought of speed: the least place
 * is the least of all places that a set of lines, just met, gives and that hold; the working set
 * is sought by its conditions one by one. The tests hold the class against it.
 */
final class Reference {
    static final int NONE = -1, BAD = -2, STATE = -3, FULL = -4, MUCH = -5;
    static final int NOTHING = -11, PLACE = -12, KIND = -13, SIZE = -14;
    static final long NO = -4611686018427387904L;

    /** All that an image keeps. */
    static final class World {
        int n = 2;
        int t = 0;
        int[][] q = {{1, 0, 0}, {0, 1, 0}, {0, 0, 1}};
        int[] c = new int[3];
        List<int[]> lines = new ArrayList<>();

        World twin() {
            World w = new World();
            w.n = n;
            w.t = t;
            for (int i = 0; i < 3; i++) {
                w.q[i] = q[i].clone();
            }
            w.c = c.clone();
            for (int[] l : lines) {
                w.lines.add(l.clone());
            }
            return w;
        }

        int all() {
            return (1 << lines.size()) - 1;
        }

        // A line is told by kind, b, d, a(0), a(1), a(2).
        int g(int l, int i) {
            int a = lines.get(l)[3 + i];
            int kind = lines.get(l)[0];
            return kind == 1 || kind == 4 ? -a : kind == 3 ? 2 * a : a;
        }

        Fraction h(int l, Fraction tide) {
            int[] line = lines.get(l);
            Fraction e = Fraction.of(line[1]).plus(tide.times(Fraction.of(line[2])));
            if (line[0] == 1) {
                return e.times(Fraction.of(-1));
            }
            if (line[0] == 4) {
                return e.times(Fraction.of(-1)).minus(Fraction.of(1));
            }
            return e;
        }

        boolean on(int l) {
            return lines.get(l)[0] == 2;
        }

        int minor(int k) {
            return minorOf(k, 0, 0);
        }

        // By the first row, column by column; 'used' tells the columns that are taken.
        private int minorOf(int k, int row, int used) {
            if (row == k) {
                return 1;
            }
            int sum = 0;
            int sign = 1;
            for (int j = 0; j < k; j++) {
                if ((used >> j & 1) == 0) {
                    sum += sign * q[row][j] * minorOf(k, row + 1, used | 1 << j);
                    sign = -sign;
                }
            }
            return sum;
        }

        boolean proper() {
            for (int k = 1; k <= n; k++) {
                if (minor(k) <= 0) {
                    return false;
                }
            }
            return true;
        }

        Fraction slack(int l, Fraction[] x, Fraction tide) {
            Fraction left = h(l, tide);
            for (int i = 0; i < n; i++) {
                left = left.minus(Fraction.of(g(l, i)).times(x[i]));
            }
            return left;
        }

        boolean holds(int l, Fraction[] x, Fraction tide) {
            int sign = slack(l, x, tide).sign();
            return on(l) ? sign == 0 : sign >= 0;
        }

        boolean holdsAll(int set, Fraction[] x, Fraction tide) {
            for (int l = 0; l < lines.size(); l++) {
                if ((set >> l & 1) != 0 && !holds(l, x, tide)) {
                    return false;
                }
            }
            return true;
        }

        Fraction worth(Fraction[] x) {
            Fraction sum = Fraction.ZERO;
            for (int i = 0; i < n; i++) {
                for (int j = 0; j < n; j++) {
                    sum = sum.plus(Fraction.of(q[i][j]).times(x[i]).times(x[j]));
                }
            }
            sum = sum.over(Fraction.of(2));
            for (int i = 0; i < n; i++) {
                sum = sum.plus(Fraction.of(c[i]).times(x[i]));
            }
            return sum;
        }

        int[] membersOf(int set) {
            int[] m = new int[Integer.bitCount(set)];
            int k = 0;
            for (int l = 0; l < lines.size(); l++) {
                if ((set >> l & 1) != 0) {
                    m[k++] = l;
                }
            }
            return m;
        }

        boolean independent(int set) {
            int[] m = membersOf(set);
            Fraction[][] rows = new Fraction[m.length][n];
            for (int k = 0; k < m.length; k++) {
                for (int i = 0; i < n; i++) {
                    rows[k][i] = Fraction.of(g(m[k], i));
                }
            }
            return Linear.rank(rows) == m.length;
        }

        /** Place and weights of a set of independent lines, each just met: x first, then y as members come. */
        Fraction[] met(int set, Fraction tide) {
            int[] m = membersOf(set);
            int wide = n + m.length;
            Fraction[][] rows = new Fraction[wide][wide];
            Fraction[] right = new Fraction[wide];
            for (Fraction[] row : rows) {
                java.util.Arrays.fill(row, Fraction.ZERO);
            }
            for (int i = 0; i < n; i++) {
                right[i] = Fraction.of(-c[i]);
                for (int j = 0; j < n; j++) {
                    rows[i][j] = Fraction.of(q[i][j]);
                }
            }
            for (int k = 0; k < m.length; k++) {
                right[n + k] = h(m[k], tide);
                for (int i = 0; i < n; i++) {
                    rows[n + k][i] = Fraction.of(g(m[k], i));
                    rows[i][n + k] = rows[n + k][i];
                }
            }
            return Linear.solve(rows, right, wide);
        }

        /** The place of the least worth that holds a set of lines, or null. */
        Fraction[] answer(int set, Fraction tide) {
            Fraction[] best = null;
            for (int w = 0; w <= set; w++) {
                if ((w & ~set) != 0 || !independent(w)) {
                    continue;
                }
                Fraction[] x = met(w, tide);
                if (holdsAll(set, x, tide) && (best == null || worth(x).compareTo(worth(best)) < 0)) {
                    best = x;
                }
            }
            return best == null ? null : java.util.Arrays.copyOf(best, n);
        }

        /** Weights of the lines of w at x, or null if they do not balance, or one is below 0. */
        Fraction[] weights(int w, Fraction[] x) {
            int[] m = membersOf(w);
            Fraction[][] rows = new Fraction[n][m.length];
            Fraction[] right = new Fraction[n];
            for (int i = 0; i < n; i++) {
                right[i] = Fraction.of(-c[i]);
                for (int j = 0; j < n; j++) {
                    right[i] = right[i].minus(Fraction.of(q[i][j]).times(x[j]));
                }
                for (int k = 0; k < m.length; k++) {
                    rows[i][k] = Fraction.of(g(m[k], i));
                }
            }
            Fraction[] y = Linear.solve(rows, right, m.length);
            if (y == null) {
                return null;
            }
            Fraction[] of = new Fraction[lines.size()];
            java.util.Arrays.fill(of, Fraction.ZERO);
            for (int k = 0; k < m.length; k++) {
                if (y[k].sign() < 0 && !on(m[k])) {
                    return null;
                }
                of[m[k]] = y[k];
            }
            return of;
        }

        int working(int set, Fraction tide) {
            Fraction[] x = answer(set, tide);
            if (x == null) {
                return NONE;
            }
            for (int w = 0; w <= set; w++) {
                if ((w & ~set) == 0 && independent(w) && isTight(w, x, tide) && weights(w, x) != null) {
                    return w;
                }
            }
            throw new IllegalStateException("an answer without a working set");
        }

        private boolean isTight(int w, Fraction[] x, Fraction tide) {
            for (int l : membersOf(w)) {
                if (slack(l, x, tide).sign() != 0) {
                    return false;
                }
            }
            return true;
        }

        /** Whether a set, just met at a tide, still is what does it. */
        boolean stands(int w, Fraction tide) {
            Fraction[] v = met(w, tide);
            if (!holdsAll(all(), v, tide)) {
                return false;
            }
            int[] m = membersOf(w);
            for (int k = 0; k < m.length; k++) {
                if (v[n + k].sign() < 0 && !on(m[k])) {
                    return false;
                }
            }
            return true;
        }

        /** Where a value that is straight over the tide, told now and one later, comes to 0. */
        private static void addZero(List<Fraction> at, Fraction now, Fraction later) {
            Fraction moved = now.minus(later);
            if (moved.sign() != 0 && now.over(moved).sign() >= 0) {
                at.add(now.over(moved));
            }
        }

        /** How far the tide may go: null, if without end. */
        Fraction reach(int w) {
            Fraction now = Fraction.of(t);
            Fraction next = Fraction.of(t + 1);
            Fraction[] v = met(w, now);
            Fraction[] later = met(w, next);
            List<Fraction> at = new ArrayList<>();
            at.add(Fraction.ZERO);
            for (int l = 0; l < lines.size(); l++) {
                addZero(at, slack(l, v, now), slack(l, later, next));
            }
            for (int k = n; k < v.length; k++) {
                addZero(at, v[k], later[k]);
            }
            java.util.Collections.sort(at);
            if (stands(w, now.plus(at.get(at.size() - 1)).plus(Fraction.of(1)))) {
                return null;
            }
            for (int k = at.size() - 1; k >= 0; k--) {
                if (stands(w, now.plus(at.get(k)))) {
                    return at.get(k);
                }
            }
            throw new IllegalStateException("the set of now does not stand now");
        }

        /** The sets of the walk; a null at its end, if it ends without an answer. */
        List<Integer> walk() {
            List<Integer> sets = new ArrayList<>();
            Fraction tide = Fraction.of(t);
            int w = 0;
            while (true) {
                sets.add(w);
                Fraction[] x = answer(w, tide);
                int l = 0;
                while (l < lines.size() && holds(l, x, tide)) {
                    l++;
                }
                if (l == lines.size()) {
                    return sets;
                }
                w = working(w | 1 << l, tide);
                if (w == NONE) {
                    sets.add(null);
                    return sets;
                }
            }
        }

        World nearestTo(int p, int q, int r) {
            World w = twin();
            w.q = new int[][] {{1, 0, 0}, {0, 1, 0}, {0, 0, 1}};
            w.c = new int[] {-p, -q, -r};
            return w;
        }
    }

    /** One for all, begun anew by each new reference. */
    private static final class Book {
        static List<Integer> noted = new ArrayList<>();
        static long mark;
        static Fraction least;
    }

    private World now = new World();
    private World image;
    private final long[][] sheets = new long[4][];
    private final int[] sorts = {-1, -1, -1, -1};

    Reference() {
        Book.noted = new ArrayList<>();
        Book.mark = 0;
        Book.least = null;
    }

    private static boolean within(int v, int least, int most) {
        return v >= least && v <= most;
    }

    private boolean isLine(int l) {
        return within(l, 0, now.lines.size() - 1);
    }

    private Fraction tide() {
        return Fraction.of(now.t);
    }

    int size(int n) {
        if (!within(n, 1, 3)) {
            return BAD;
        }
        int was = now.n;
        now = new World();
        now.n = n;
        return was;
    }

    int bend(int i, int j, int v) {
        if (!within(i, 0, now.n - 1) || !within(j, 0, now.n - 1)) {
            return BAD;
        }
        if (i == j ? !within(v, 1, 20) : !within(v, -9, 9)) {
            return BAD;
        }
        int was = now.q[i][j];
        now.q[i][j] = v;
        now.q[j][i] = v;
        return was;
    }

    int push(int i, int v) {
        if (!within(i, 0, now.n - 1) || !within(v, -99, 99)) {
            return BAD;
        }
        int was = now.c[i];
        now.c[i] = v;
        return was;
    }

    int tide(int v) {
        if (!within(v, 0, 40)) {
            return BAD;
        }
        int was = now.t;
        now.t = v;
        return was;
    }

    int line(int kind, int b, int d) {
        if (!within(kind, 0, 4) || !within(b, -99, 99) || !within(d, -9, 9)) {
            return BAD;
        }
        if (now.lines.size() == 6) {
            return FULL;
        }
        now.lines.add(new int[] {kind, b, d, 0, 0, 0});
        return now.lines.size() - 1;
    }

    int slope(int line, int i, int v) {
        if (!isLine(line) || !within(i, 0, 2) || !within(v, -9, 9)) {
            return BAD;
        }
        int was = now.lines.get(line)[3 + i];
        now.lines.get(line)[3 + i] = v;
        return was;
    }

    int change(int line, int what, int v) {
        if (!isLine(line) || !within(what, 0, 2)) {
            return BAD;
        }
        if (what == 0 ? !within(v, 0, 4) : what == 1 ? !within(v, -99, 99) : !within(v, -9, 9)) {
            return BAD;
        }
        int was = now.lines.get(line)[what];
        now.lines.get(line)[what] = v;
        return was;
    }

    int drop(int line) {
        if (!isLine(line)) {
            return BAD;
        }
        now.lines.remove(line);
        return now.lines.size();
    }

    int lineOf(int line, int what) {
        if (!isLine(line) || !within(what, 0, 6)) {
            return BAD;
        }
        if (what < 3) {
            return now.lines.get(line)[what];
        }
        if (what == 3) {
            return (int) now.h(line, tide()).part(0);
        }
        return what - 4 < now.n ? now.g(line, what - 4) : 0;
    }

    int minor(int k) {
        return within(k, 1, now.n) ? now.minor(k) : BAD;
    }

    int isProper() {
        return now.proper() ? 1 : 0;
    }

    private boolean isSet(int set) {
        return within(set, 0, now.all());
    }

    private int refused(boolean bad, int set) {
        if (bad) {
            return BAD;
        }
        if (!now.proper()) {
            return STATE;
        }
        return now.answer(set, tide()) == null ? NONE : 0;
    }

    int working(int set) {
        int no = refused(!isSet(set), set);
        return no != 0 ? no : now.working(set, tide());
    }

    long answer(int set, int i, int part) {
        int no = refused(!isSet(set) || !within(i, 0, now.n - 1) || !within(part, 0, 1), set);
        return no != 0 ? NO + no : now.answer(set, tide())[i].part(part);
    }

    long worth(int set, int part) {
        int no = refused(!isSet(set) || !within(part, 0, 1), set);
        return no != 0 ? NO + no : now.worth(now.answer(set, tide())).part(part);
    }

    long weight(int set, int line, int part) {
        boolean bad = !isSet(set) || !isLine(line) || (set >> line & 1) == 0 || !within(part, 0, 1);
        int no = refused(bad, set);
        if (no != 0) {
            return NO + no;
        }
        return now.weights(now.working(set, tide()), now.answer(set, tide()))[line].part(part);
    }

    long slack(int set, int line, int part) {
        int no = refused(!isSet(set) || !isLine(line) || !within(part, 0, 1), set);
        return no != 0 ? NO + no : now.slack(line, now.answer(set, tide()), tide()).part(part);
    }

    int held(int set) {
        int no = refused(!isSet(set), set);
        if (no != 0) {
            return no;
        }
        int of = 0;
        for (int l = 0; l < now.lines.size(); l++) {
            of += now.holds(l, now.answer(set, tide()), tide()) ? 1 << l : 0;
        }
        return of;
    }

    int tight(int set) {
        int no = refused(!isSet(set), set);
        if (no != 0) {
            return no;
        }
        int of = 0;
        for (int l = 0; l < now.lines.size(); l++) {
            of += now.slack(l, now.answer(set, tide()), tide()).sign() == 0 ? 1 << l : 0;
        }
        return of;
    }

    int steps() {
        if (!now.proper()) {
            return STATE;
        }
        List<Integer> sets = now.walk();
        return sets.contains(null) ? NONE : sets.size() - 1;
    }

    int walk(int k) {
        if (!now.proper()) {
            return STATE;
        }
        List<Integer> sets = now.walk();
        return k < 0 || k >= sets.size() || sets.get(k) == null ? PLACE : sets.get(k);
    }

    int pieces(int to) {
        if (!within(to, 1, 40)) {
            return BAD;
        }
        if (!now.proper()) {
            return STATE;
        }
        int count = 0;
        int last = now.working(now.all(), Fraction.ZERO);
        for (int t = 1; t <= to; t++) {
            int w = now.working(now.all(), Fraction.of(t));
            count += w != last ? 1 : 0;
            last = w;
        }
        return count;
    }

    long reach(int part) {
        int no = refused(!within(part, 0, 1), now.all());
        if (no != 0) {
            return NO + no;
        }
        Fraction most = now.reach(now.working(now.all(), tide()));
        return most == null ? NO + NONE : most.part(part);
    }

    private boolean isPlace(int p, int q, int r) {
        return within(p, -99, 99) && within(q, -99, 99) && within(r, -99, 99);
    }

    long nearest(int p, int q, int r, int i, int part) {
        if (!isPlace(p, q, r) || !within(i, 0, now.n - 1) || !within(part, 0, 1)) {
            return NO + BAD;
        }
        Fraction[] x = now.nearestTo(p, q, r).answer(now.all(), tide());
        return x == null ? NO + NONE : x[i].part(part);
    }

    long distance(int p, int q, int r, int part) {
        if (!isPlace(p, q, r) || !within(part, 0, 1)) {
            return NO + BAD;
        }
        Fraction[] x = now.nearestTo(p, q, r).answer(now.all(), tide());
        if (x == null) {
            return NO + NONE;
        }
        int[] told = {p, q, r};
        Fraction sum = Fraction.ZERO;
        for (int i = 0; i < now.n; i++) {
            Fraction off = x[i].minus(Fraction.of(told[i]));
            sum = sum.plus(off.times(off));
        }
        return sum.part(part);
    }

    int certify(int sheet) {
        int no = refused(!within(sheet, 0, 3), now.all());
        if (no != 0) {
            return no;
        }
        Fraction[] x = now.answer(now.all(), tide());
        Fraction[] y = now.weights(now.working(now.all(), tide()), x);
        List<Fraction> all = new ArrayList<>(List.of(x));
        all.addAll(List.of(y));
        long d = 1;
        for (Fraction f : all) {
            long below = f.part(1);
            d = d / java.math.BigInteger.valueOf(d).gcd(f.below).longValueExact() * below;
        }
        sorts[sheet] = 1;
        sheets[sheet] = new long[all.size() + 1];
        for (int k = 0; k < all.size(); k++) {
            sheets[sheet][k] = all.get(k).times(Fraction.of(d)).part(0);
        }
        sheets[sheet][all.size()] = d;
        return all.size() + 1;
    }

    int check(int sheet) {
        if (!within(sheet, 0, 3)) {
            return BAD;
        }
        if (sorts[sheet] < 0) {
            return NOTHING;
        }
        int m = now.lines.size();
        long[] told = sheets[sheet];
        if (told.length != now.n + m + 1) {
            return SIZE;
        }
        for (long v : told) {
            if (v < -1000000000000L || v > 1000000000000L) {
                return MUCH;
            }
        }
        return firstWrong(told, m);
    }

    private int firstWrong(long[] told, int m) {
        Fraction d = Fraction.of(told[now.n + m]);
        if (d.sign() <= 0) {
            return 1;
        }
        Fraction[] x = new Fraction[now.n];
        for (int i = 0; i < now.n; i++) {
            x[i] = Fraction.of(told[i]).over(d);
        }
        for (int i = 0; i < now.n; i++) {
            Fraction sum = Fraction.of(now.c[i]);
            for (int j = 0; j < now.n; j++) {
                sum = sum.plus(Fraction.of(now.q[i][j]).times(x[j]));
            }
            for (int l = 0; l < m; l++) {
                sum = sum.plus(Fraction.of(now.g(l, i)).times(Fraction.of(told[now.n + l]).over(d)));
            }
            if (sum.sign() != 0) {
                return 2;
            }
        }
        for (int l = 0; l < m; l++) {
            if (told[now.n + l] < 0 && !now.on(l)) {
                return 3;
            }
        }
        if (!now.holdsAll(now.all(), x, tide())) {
            return 4;
        }
        for (int l = 0; l < m; l++) {
            if (told[now.n + l] != 0 && now.slack(l, x, tide()).sign() != 0) {
                return 5;
            }
        }
        return 0;
    }

    int solve() {
        int w = working(now.all());
        if (w == STATE) {
            return STATE;
        }
        Book.noted.add(0, w);
        Book.mark = Book.mark * 31 + w;
        if (w != NONE) {
            Fraction worth = now.worth(now.answer(now.all(), tide()));
            if (Book.least == null || worth.compareTo(Book.least) < 0) {
                Book.least = worth;
            }
        }
        return w;
    }

    int notes() {
        return Book.noted.size();
    }

    long mark() {
        return Book.mark;
    }

    int trail(int k) {
        return within(k, 0, 7) && k < Book.noted.size() ? Book.noted.get(k) : PLACE;
    }

    long least(int part) {
        if (!within(part, 0, 1)) {
            return NO + BAD;
        }
        return Book.least == null ? NO + NONE : Book.least.part(part);
    }

    int sheet(int s, int sort, int n) {
        if (!within(s, 0, 3) || !within(sort, -1, 1)) {
            return BAD;
        }
        if (sort == -1) {
            sorts[s] = -1;
            sheets[s] = null;
            return 1;
        }
        if (n > 12) {
            return BAD;
        }
        if (n < 0) {
            return SIZE;
        }
        sorts[s] = sort;
        sheets[s] = new long[n];
        return 1;
    }

    private int refusedCell(int s, int i) {
        if (!within(s, 0, 3)) {
            return BAD;
        }
        if (sorts[s] < 0) {
            return NOTHING;
        }
        return within(i, 0, sheets[s].length - 1) ? 0 : PLACE;
    }

    int cell(int s, int i, long v) {
        int no = refusedCell(s, i);
        if (no != 0) {
            return no;
        }
        if (sorts[s] == 0 && (v < Integer.MIN_VALUE || v > Integer.MAX_VALUE)) {
            return MUCH;
        }
        sheets[s][i] = v;
        return 1;
    }

    long read(int s, int i) {
        int no = refusedCell(s, i);
        return no != 0 ? NO + no : sheets[s][i];
    }

    int copy(int from, int i, int to, int j, int n) {
        if (!within(from, 0, 3) || !within(to, 0, 3)) {
            return BAD;
        }
        if (sorts[from] < 0 || sorts[to] < 0) {
            return NOTHING;
        }
        if (sorts[from] != sorts[to]) {
            return KIND;
        }
        // The host's own word on places: what arraycopy refuses is refused.
        long[] was = sheets[from].clone();
        try {
            System.arraycopy(was, i, sheets[to], j, n);
        } catch (IndexOutOfBoundsException refused) {
            return PLACE;
        }
        return n;
    }

    int image() {
        image = now.twin();
        return image.lines.size();
    }

    int back() {
        if (image == null) {
            return STATE;
        }
        now = image.twin();
        return now.lines.size();
    }

    int count(int what) {
        switch (what) {
            case 0: return now.n;
            case 1: return now.lines.size();
            case 2: return now.t;
            case 3:
                int on = 0;
                for (int l = 0; l < now.lines.size(); l++) {
                    on += now.on(l) ? 1 : 0;
                }
                return on;
            default: return BAD;
        }
    }
}

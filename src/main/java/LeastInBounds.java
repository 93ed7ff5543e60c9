import java.util.Arrays;

/**
 * Least places of a bowl in bounds, exactly. The document (DOC.md) says what each call answers;
 * words in capitals there are plain words here.
 */
public final class LeastInBounds {
    public static final int NONE = -1, BAD = -2, STATE = -3, FULL = -4, MUCH = -5, NOTHING = -11, PLACE = -12, KIND = -13, SIZE = -14;
    public static final long NO = -4611686018427387904L;

    private static final int MOST_VARIABLES = 3, MOST_LINES = 6;
    private static final int MOST_SQUARE_BEND = 20, MOST_CROSS_BEND = 9, MOST_PUSH = 99, MOST_TIDE = 40;
    private static final int MOST_SLOPE = 9, MOST_BASE = 99, MOST_DRIFT = 9;
    private static final int OVER = 1, ON = 2, TWICE = 3, APART = 4;
    private static final int SHEETS = 4, MOST_CELLS = 12, MISSING = -1, INTS = 0, LONGS = 1;
    private static final int TRAIL_LENGTH = 8;
    private static final long MOST_TOLD = 1000000000000L;

    private final Bowl bowl = new Bowl();
    private final Bowl kept = new Bowl();
    private final Bowl round = new Bowl();
    private final Solver solver = new Solver(bowl);
    private final Solver nearSolver = new Solver(round);
    private final Sheets sheets = new Sheets();
    private final Certificate certificate = new Certificate(bowl);
    private final Book book = new Book();
    private boolean hasImage;

    public LeastInBounds() {
        bowl.begin(2);
    }

    // ---- the bowl, lines

    public int size(int n) {
        if (n < 1 || n > MOST_VARIABLES) {
            return BAD;
        }
        int was = bowl.variables;
        bowl.begin(n);
        return was;
    }

    public int bend(int i, int j, int v) {
        if (!isVariable(i) || !isVariable(j) || !isBend(i == j, v)) {
            return BAD;
        }
        int was = bowl.bendOf(i, j);
        bowl.putBend(i, j, v);
        return was;
    }

    public int push(int i, int v) {
        if (!isVariable(i) || !isWithin(v, MOST_PUSH)) {
            return BAD;
        }
        int was = bowl.pushes[i];
        bowl.pushes[i] = v;
        return was;
    }

    public int tide(int v) {
        if (v < 0 || v > MOST_TIDE) {
            return BAD;
        }
        int was = bowl.height;
        bowl.height = v;
        return was;
    }

    public int line(int kind, int b, int d) {
        if (!isKind(kind) || !isWithin(b, MOST_BASE) || !isWithin(d, MOST_DRIFT)) {
            return BAD;
        }
        if (bowl.lines >= MOST_LINES) {
            return FULL;
        }
        return bowl.addLine(kind, b, d);
    }

    public int slope(int line, int i, int v) {
        if (!isLine(line) || i < 0 || i >= MOST_VARIABLES || !isWithin(v, MOST_SLOPE)) {
            return BAD;
        }
        int was = bowl.slopes[line * MOST_VARIABLES + i];
        bowl.slopes[line * MOST_VARIABLES + i] = v;
        return was;
    }

    public int change(int line, int what, int v) {
        if (!isLine(line) || !isChange(what, v)) {
            return BAD;
        }
        int[] row = what == 0 ? bowl.kinds : what == 1 ? bowl.bases : bowl.drifts;
        int was = row[line];
        row[line] = v;
        return was;
    }

    public int drop(int line) {
        if (!isLine(line)) {
            return BAD;
        }
        bowl.removeLine(line);
        return bowl.lines;
    }

    public int lineOf(int line, int what) {
        if (!isLine(line)) {
            return BAD;
        }
        switch (what) {
            case 0: return bowl.kinds[line];
            case 1: return bowl.bases[line];
            case 2: return bowl.drifts[line];
            case 3: return bowl.boundOf(line, bowl.height);
            case 4: case 5: case 6: return isVariable(what - 4) ? bowl.rowOf(line, what - 4) : 0;
            default: return BAD;
        }
    }

    public int minor(int k) {
        return k < 1 || k > bowl.variables ? BAD : bowl.determinant(k);
    }

    public int isProper() {
        return bowl.hasLeast() ? 1 : 0;
    }

    // ---- answers

    public int working(int set) {
        return find(!isSet(set), set);
    }

    public long answer(int set, int i, int part) {
        int found = find(!isSet(set) || !isVariable(i) || !isPart(part), set);
        if (found < 0) {
            return NO + found;
        }
        return Fractions.told(solver.now.place[i], solver.now.below, part);
    }

    public long worth(int set, int part) {
        int found = find(!isSet(set) || !isPart(part), set);
        if (found < 0) {
            return NO + found;
        }
        return Fractions.told(solver.twiceWorth(), 2 * solver.now.below, part);
    }

    public long weight(int set, int line, int part) {
        int found = find(!isSet(set) || !isLine(line) || !isOf(set, line) || !isPart(part), set);
        if (found < 0) {
            return NO + found;
        }
        return Fractions.told(solver.now.weights[line], solver.now.below, part);
    }

    public long slack(int set, int line, int part) {
        int found = find(!isSet(set) || !isLine(line) || !isPart(part), set);
        if (found < 0) {
            return NO + found;
        }
        return Fractions.told(solver.slackOf(line), solver.now.below, part);
    }

    public int held(int set) {
        int found = find(!isSet(set), set);
        return found < 0 ? found : solver.heldLines();
    }

    public int tight(int set) {
        int found = find(!isSet(set), set);
        return found < 0 ? found : solver.tightLines();
    }

    // ---- the walk, the tide, the nearest

    public int steps() {
        if (!bowl.hasLeast()) {
            return STATE;
        }
        return solver.goPath() ? solver.pathLength - 1 : NONE;
    }

    public int walk(int k) {
        if (!bowl.hasLeast()) {
            return STATE;
        }
        solver.goPath();
        return k < 0 || k >= solver.pathLength ? PLACE : solver.path[k];
    }

    public int pieces(int to) {
        if (to < 1 || to > MOST_TIDE) {
            return BAD;
        }
        return bowl.hasLeast() ? solver.changesTo(to) : STATE;
    }

    public long reach(int part) {
        int found = find(!isPart(part), bowl.allLines());
        if (found < 0) {
            return NO + found;
        }
        if (!solver.findReach()) {
            return NO + NONE;
        }
        return Fractions.told(solver.reachAbove, solver.reachBelow, part);
    }

    public long nearest(int p, int q, int r, int i, int part) {
        int found = findNear(!isVariable(i) || !isPart(part), p, q, r);
        if (found < 0) {
            return NO + found;
        }
        return Fractions.told(nearSolver.now.place[i], nearSolver.now.below, part);
    }

    public long distance(int p, int q, int r, int part) {
        int found = findNear(!isPart(part), p, q, r);
        if (found < 0) {
            return NO + found;
        }
        // |x - P|^2 is twice the worth in the round bowl and |P|^2: so no long number is squared.
        long below = nearSolver.now.below;
        return Fractions.told(nearSolver.twiceWorth() + round.squareOfPushes() * below, below, part);
    }

    // ---- certificates

    public int certify(int sheet) {
        int found = find(!isSheet(sheet), bowl.allLines());
        if (found < 0) {
            return found;
        }
        certificate.tell(solver.now, sheets, sheet);
        return certificate.length();
    }

    public int check(int sheet) {
        if (!isSheet(sheet)) {
            return BAD;
        }
        if (sheets.sorts[sheet] == MISSING) {
            return NOTHING;
        }
        if (sheets.lengths[sheet] != certificate.length()) {
            return SIZE;
        }
        if (!sheets.isAllWithin(sheet, MOST_TOLD)) {
            return MUCH;
        }
        certificate.take(sheets, sheet);
        return certificate.firstWrong();
    }

    // ---- the book

    public int solve() {
        int found = find(false, bowl.allLines());
        if (found == STATE) {
            return STATE;
        }
        book.write(found);
        if (found >= 0) {
            book.offer(solver.twiceWorth(), 2 * solver.now.below);
        }
        return found;
    }

    public int notes() {
        return book.noted;
    }

    public long mark() {
        return book.sum;
    }

    public int trail(int k) {
        return k < 0 || k >= TRAIL_LENGTH || k >= book.noted ? PLACE : book.lastBut(k);
    }

    public long least(int part) {
        if (!isPart(part)) {
            return NO + BAD;
        }
        if (book.leastBelow == 0) {
            return NO + NONE;
        }
        return Fractions.told(book.leastAbove, book.leastBelow, part);
    }

    // ---- sheets, an image

    public int sheet(int s, int sort, int n) {
        if (!isSheet(s) || sort < MISSING || sort > LONGS) {
            return BAD;
        }
        int length = sort == MISSING ? 0 : n;
        if (length > MOST_CELLS) {
            return BAD;
        }
        if (length < 0) {
            return SIZE;
        }
        sheets.begin(s, sort, length);
        return 1;
    }

    public int cell(int s, int i, long v) {
        int refused = refusedCell(s, i);
        if (refused < 0) {
            return refused;
        }
        if (sheets.sorts[s] == INTS && v != (int) v) {
            return MUCH;
        }
        sheets.put(s, i, v);
        return 1;
    }

    public long read(int s, int i) {
        int refused = refusedCell(s, i);
        return refused < 0 ? NO + refused : sheets.at(s, i);
    }

    public int copy(int from, int i, int to, int j, int n) {
        if (!isSheet(from) || !isSheet(to)) {
            return BAD;
        }
        if (sheets.sorts[from] == MISSING || sheets.sorts[to] == MISSING) {
            return NOTHING;
        }
        if (sheets.sorts[from] != sheets.sorts[to]) {
            return KIND;
        }
        if (!sheets.hasRoom(from, i, n) || !sheets.hasRoom(to, j, n)) {
            return PLACE;
        }
        sheets.move(from, i, to, j, n);
        return n;
    }

    public int image() {
        kept.become(bowl);
        hasImage = true;
        return kept.lines;
    }

    public int back() {
        if (!hasImage) {
            return STATE;
        }
        bowl.become(kept);
        return bowl.lines;
    }

    public int count(int what) {
        switch (what) {
            case 0: return bowl.variables;
            case 1: return bowl.lines;
            case 2: return bowl.height;
            case 3: return bowl.linesOn();
            default: return BAD;
        }
    }

    // ---- what the calls ask of their arguments

    private boolean isVariable(int i) {
        return i >= 0 && i < bowl.variables;
    }

    private boolean isLine(int line) {
        return line >= 0 && line < bowl.lines;
    }

    private boolean isSet(int set) {
        return (set & ~bowl.allLines()) == 0;
    }

    private static boolean isOf(int set, int line) {
        return (set >> line & 1) != 0;
    }

    private static boolean isPart(int part) {
        return part == 0 || part == 1;
    }

    private static boolean isSheet(int s) {
        return s >= 0 && s < SHEETS;
    }

    private static boolean isKind(int kind) {
        return kind >= 0 && kind <= APART;
    }

    private static boolean isWithin(int v, int most) {
        return v >= -most && v <= most;
    }

    private static boolean isBend(boolean square, int v) {
        return square ? v >= 1 && v <= MOST_SQUARE_BEND : isWithin(v, MOST_CROSS_BEND);
    }

    private static boolean isChange(int what, int v) {
        switch (what) {
            case 0: return isKind(v);
            case 1: return isWithin(v, MOST_BASE);
            case 2: return isWithin(v, MOST_DRIFT);
            default: return false;
        }
    }

    private int refusedCell(int s, int i) {
        if (!isSheet(s)) {
            return BAD;
        }
        if (sheets.sorts[s] == MISSING) {
            return NOTHING;
        }
        return i < 0 || i >= sheets.lengths[s] ? PLACE : 0;
    }

    /** The working set, which the solver then stands at; or what refuses it. */
    private int find(boolean bad, int set) {
        if (bad) {
            return BAD;
        }
        return bowl.hasLeast() ? solver.find(set, bowl.height) : STATE;
    }

    private int findNear(boolean bad, int p, int q, int r) {
        if (bad || !isWithin(p, MOST_PUSH) || !isWithin(q, MOST_PUSH) || !isWithin(r, MOST_PUSH)) {
            return BAD;
        }
        round.become(bowl);
        round.makeRound();
        round.pushes[0] = -p;
        round.pushes[1] = -q;
        round.pushes[2] = -r;
        return nearSolver.find(round.allLines(), round.height);
    }

    /** The bowl, its lines and the tide: all that an image keeps. */
    private static final class Bowl {
        int variables = 1;
        int height;
        int lines;
        final int[] bends = new int[MOST_VARIABLES * MOST_VARIABLES];
        final int[] pushes = new int[MOST_VARIABLES];
        final int[] kinds = new int[MOST_LINES];
        final int[] bases = new int[MOST_LINES];
        final int[] drifts = new int[MOST_LINES];
        final int[] slopes = new int[MOST_LINES * MOST_VARIABLES];

        void begin(int n) {
            variables = n;
            height = 0;
            lines = 0;
            makeRound();
            Arrays.fill(pushes, 0);
        }

        void makeRound() {
            Arrays.fill(bends, 0);
            for (int i = 0; i < MOST_VARIABLES; i++) {
                putBend(i, i, 1);
            }
        }

        void become(Bowl other) {
            variables = other.variables;
            height = other.height;
            lines = other.lines;
            System.arraycopy(other.bends, 0, bends, 0, bends.length);
            System.arraycopy(other.pushes, 0, pushes, 0, pushes.length);
            System.arraycopy(other.kinds, 0, kinds, 0, kinds.length);
            System.arraycopy(other.bases, 0, bases, 0, bases.length);
            System.arraycopy(other.drifts, 0, drifts, 0, drifts.length);
            System.arraycopy(other.slopes, 0, slopes, 0, slopes.length);
        }

        int bendOf(int i, int j) {
            return bends[i * MOST_VARIABLES + j];
        }

        void putBend(int i, int j, int v) {
            bends[i * MOST_VARIABLES + j] = v;
            bends[j * MOST_VARIABLES + i] = v;
        }

        int addLine(int kind, int b, int d) {
            int line = lines;
            kinds[line] = kind;
            bases[line] = b;
            drifts[line] = d;
            for (int i = 0; i < MOST_VARIABLES; i++) {
                slopes[line * MOST_VARIABLES + i] = 0;
            }
            lines = line + 1;
            return line;
        }

        void removeLine(int line) {
            int behind = lines - line - 1;
            System.arraycopy(kinds, line + 1, kinds, line, behind);
            System.arraycopy(bases, line + 1, bases, line, behind);
            System.arraycopy(drifts, line + 1, drifts, line, behind);
            System.arraycopy(slopes, (line + 1) * MOST_VARIABLES, slopes, line * MOST_VARIABLES, behind * MOST_VARIABLES);
            lines--;
        }

        boolean isOn(int line) {
            return kinds[line] == ON;
        }

        int rowOf(int line, int i) {
            int a = slopes[line * MOST_VARIABLES + i];
            switch (kinds[line]) {
                case OVER: case APART: return -a;
                case TWICE: return 2 * a;
                default: return a;
            }
        }

        int boundOf(int line, int tide) {
            int e = bases[line] + tide * drifts[line];
            switch (kinds[line]) {
                case OVER: return -e;
                case APART: return -e - 1;
                default: return e;
            }
        }

        int driftOf(int line) {
            return boundOf(line, 1) - boundOf(line, 0);
        }

        int linesOn() {
            int on = 0;
            for (int l = 0; l < lines; l++) {
                on += isOn(l) ? 1 : 0;
            }
            return on;
        }

        int allLines() {
            return (1 << lines) - 1;
        }

        int determinant(int k) {
            int first = bendOf(0, 0);
            int second = first * bendOf(1, 1) - bendOf(0, 1) * bendOf(0, 1);
            if (k < 3) {
                return k == 1 ? first : second;
            }
            return bendOf(2, 2) * second
                - bendOf(1, 2) * (first * bendOf(1, 2) - bendOf(0, 1) * bendOf(0, 2))
                + bendOf(0, 2) * (bendOf(0, 1) * bendOf(1, 2) - bendOf(0, 2) * bendOf(1, 1));
        }

        boolean hasLeast() {
            for (int k = 1; k <= variables; k++) {
                if (determinant(k) <= 0) {
                    return false;
                }
            }
            return true;
        }

        long squareOfPushes() {
            long sum = 0;
            for (int i = 0; i < variables; i++) {
                sum += pushes[i] * pushes[i];
            }
            return sum;
        }

        /** What a bound leaves over a line's row by a place, above the number below the place. */
        long leftOf(int bound, int line, Point at) {
            long left = bound * at.below;
            for (int i = 0; i < variables; i++) {
                left -= rowOf(line, i) * at.place[i];
            }
            return left;
        }

        boolean isHeldBy(int line, long slack) {
            return isOn(line) ? slack == 0 : slack >= 0;
        }
    }

    /** A place and the weights of all lines, all over one number above 0. */
    private static final class Point {
        final long[] place = new long[MOST_VARIABLES];
        final long[] weights = new long[MOST_LINES];
        long below = 1;
    }

    /**
     * Finds places and weights by trying sets of lines, the least first: a set whose lines are
     * just met gives one place and weights, and the first that fits is the working one.
     * All entries met on the way are minors of a system of at most 6 rows, which stay below 5e10,
     * and products of two below 4e18: so longs are enough.
     */
    private static final class Solver {
        private static final int MOST_ROWS = MOST_VARIABLES + MOST_VARIABLES;
        private static final int MOST_SETS = 1 << MOST_LINES;

        final Bowl bowl;
        final Point now = new Point();
        final Point drift = new Point();
        final int[] path = new int[MOST_SETS];
        int pathLength;
        long reachAbove;
        long reachBelow;
        private final long[][] rows = new long[MOST_ROWS][MOST_ROWS + 2];
        private final int[] members = new int[MOST_VARIABLES];
        private final int[] foundAt = new int[MOST_TIDE + 1];
        private int height;
        private int wide;
        private long below;

        Solver(Bowl bowl) {
            this.bowl = bowl;
        }

        /** The working set of a set at a tide, or NONE; now and drift then tell its place and weights. */
        int find(int set, int tide) {
            for (int w = 0; w <= set && w < MOST_SETS; w++) {
                if ((w & ~set) == 0 && meet(w)) {
                    layAt(tide);
                    if (fits(set)) {
                        return w;
                    }
                }
            }
            return NONE;
        }

        /** Solves for a set whose lines are just met; false, if their rows aren't independent. */
        private boolean meet(int set) {
            if (Integer.bitCount(set) > bowl.variables) {
                return false;
            }
            gather(set);
            fillBowlRows();
            fillLineRows();
            return eliminate();
        }

        private void gather(int set) {
            int size = 0;
            for (int l = 0; l < bowl.lines && size < MOST_VARIABLES; l++) {
                if ((set >> l & 1) != 0) {
                    members[size] = l;
                    size++;
                }
            }
            wide = bowl.variables + size;
        }

        private void fillBowlRows() {
            int n = bowl.variables;
            for (int i = 0; i < n; i++) {
                for (int j = 0; j < n; j++) {
                    rows[i][j] = bowl.bendOf(i, j);
                }
                for (int m = n; m < wide; m++) {
                    rows[i][m] = bowl.rowOf(members[m - n], i);
                }
                rows[i][wide] = -bowl.pushes[i];
                rows[i][wide + 1] = 0;
            }
        }

        private void fillLineRows() {
            int n = bowl.variables;
            for (int m = n; m < wide; m++) {
                int line = members[m - n];
                Arrays.fill(rows[m], 0);
                for (int i = 0; i < n; i++) {
                    rows[m][i] = bowl.rowOf(line, i);
                }
                rows[m][wide] = bowl.boundOf(line, 0);
                rows[m][wide + 1] = bowl.driftOf(line);
            }
        }

        /**
         * Clears all columns without fractions: each division leaves no rest. Rows need not be
         * swapped, since a proper bowl comes first: a pivot is 0 only where a row depends on others.
         */
        private boolean eliminate() {
            long last = 1;
            for (int step = 0; step < wide; step++) {
                long pivot = rows[step][step];
                if (pivot == 0) {
                    return false;
                }
                for (int r = 0; r < wide; r++) {
                    if (r != step) {
                        clearRow(rows[r], rows[step], step, last);
                    }
                }
                last = pivot;
            }
            below = last;
            return true;
        }

        private void clearRow(long[] row, long[] by, int step, long divisor) {
            long pivot = by[step];
            long factor = row[step];
            for (int c = step + 1; c < wide + 2 && divisor != 0; c++) {
                row[c] = (pivot * row[c] - factor * by[c]) / divisor;
            }
        }

        private void layAt(int tide) {
            height = tide;
            int sign = below < 0 ? -1 : 1;
            now.below = sign * below;
            drift.below = now.below;
            Arrays.fill(now.weights, 0);
            Arrays.fill(drift.weights, 0);
            int n = bowl.variables;
            for (int r = 0; r < wide; r++) {
                long moved = sign * rows[r][wide + 1];
                long value = sign * rows[r][wide] + tide * moved;
                if (r < n) {
                    now.place[r] = value;
                    drift.place[r] = moved;
                } else {
                    now.weights[members[r - n]] = value;
                    drift.weights[members[r - n]] = moved;
                }
            }
        }

        private boolean fits(int set) {
            for (int l = 0; l < bowl.lines; l++) {
                if (now.weights[l] < 0 && !bowl.isOn(l)) {
                    return false;
                }
                if ((set >> l & 1) != 0 && !bowl.isHeldBy(l, slackOf(l))) {
                    return false;
                }
            }
            return true;
        }

        long slackOf(int line) {
            return bowl.leftOf(bowl.boundOf(line, height), line, now);
        }

        int heldLines() {
            int set = 0;
            for (int l = 0; l < bowl.lines; l++) {
                set |= bowl.isHeldBy(l, slackOf(l)) ? 1 << l : 0;
            }
            return set;
        }

        int tightLines() {
            int set = 0;
            for (int l = 0; l < bowl.lines; l++) {
                set |= slackOf(l) == 0 ? 1 << l : 0;
            }
            return set;
        }

        /**
         * Above now.below: where bends, pushes and weights balance, twice the worth is the pushes
         * by the place less the bounds by the weights, and no number is squared.
         */
        long twiceWorth() {
            long sum = 0;
            for (int i = 0; i < bowl.variables; i++) {
                sum += bowl.pushes[i] * now.place[i];
            }
            for (int l = 0; l < bowl.lines; l++) {
                sum -= bowl.boundOf(l, height) * now.weights[l];
            }
            return sum;
        }

        /** Goes the walk at the bowl's tide; false, if it ends without an answer. */
        boolean goPath() {
            int set = find(0, bowl.height);
            pathLength = 0;
            // Each set's worth is above the last one's, so none comes twice and the path has room.
            for (int k = 0; k < MOST_SETS && set >= 0; k++) {
                path[k] = set;
                pathLength = k + 1;
                int loose = bowl.allLines() & ~heldLines();
                if (loose == 0) {
                    return true;
                }
                set = find(set | loose & -loose, bowl.height);
            }
            return false;
        }

        /** For how many tides from 1 on the working set is another than one tide before. */
        int changesTo(int to) {
            int all = bowl.allLines();
            Arrays.fill(foundAt, NONE);
            for (int w = 0; w <= all; w++) {
                if (meet(w)) {
                    claimTides(w, all, to);
                }
            }
            int changes = 0;
            for (int t = 1; t <= to && t <= MOST_TIDE; t++) {
                changes += foundAt[t] != foundAt[t - 1] ? 1 : 0;
            }
            return changes;
        }

        private void claimTides(int w, int all, int to) {
            for (int t = 0; t <= to && t <= MOST_TIDE; t++) {
                if (foundAt[t] == NONE) {
                    layAt(t);
                    if (fits(all)) {
                        foundAt[t] = w;
                    }
                }
            }
        }

        /** How far the tide may go with the set that find left; false, if without end. */
        boolean findReach() {
            reachBelow = 0;
            for (int l = 0; l < bowl.lines; l++) {
                long moved = bowl.leftOf(bowl.driftOf(l), l, drift);
                if (bowl.isOn(l)) {
                    // On a line, slack may go neither way.
                    limitReach(slackOf(l), -Math.abs(moved));
                } else {
                    limitReach(slackOf(l), moved);
                    limitReach(now.weights[l], drift.weights[l]);
                }
            }
            return reachBelow != 0;
        }

        private void limitReach(long value, long moved) {
            if (moved >= 0) {
                return;
            }
            if (reachBelow == 0 || Fractions.isLess(value, -moved, reachAbove, reachBelow)) {
                reachAbove = value;
                reachBelow = -moved;
            }
        }
    }

    /** A certificate of the bowl: its place, weights and the number below, in this order. */
    private static final class Certificate {
        private final Bowl bowl;
        private final Point told = new Point();

        Certificate(Bowl bowl) {
            this.bowl = bowl;
        }

        int length() {
            return bowl.variables + bowl.lines + 1;
        }

        void tell(Point point, Sheets sheets, int s) {
            int n = bowl.variables;
            long shared = sharedBy(point);
            sheets.begin(s, LONGS, length());
            for (int i = 0; i < n; i++) {
                sheets.put(s, i, point.place[i] / shared);
            }
            for (int l = 0; l < bowl.lines; l++) {
                sheets.put(s, n + l, point.weights[l] / shared);
            }
            sheets.put(s, n + bowl.lines, point.below / shared);
        }

        /** The greatest number that divides all of the point: what is left over it is the least below. */
        private long sharedBy(Point point) {
            long shared = point.below;
            for (int i = 0; i < bowl.variables; i++) {
                shared = Fractions.shared(shared, point.place[i]);
            }
            for (int l = 0; l < bowl.lines; l++) {
                shared = Fractions.shared(shared, point.weights[l]);
            }
            return shared == 0 ? 1 : shared;
        }

        void take(Sheets sheets, int s) {
            int n = bowl.variables;
            for (int i = 0; i < n; i++) {
                told.place[i] = sheets.at(s, i);
            }
            for (int l = 0; l < bowl.lines; l++) {
                told.weights[l] = sheets.at(s, n + l);
            }
            told.below = sheets.at(s, n + bowl.lines);
        }

        int firstWrong() {
            if (told.below < 1) {
                return 1;
            }
            if (!isBalanced()) {
                return 2;
            }
            if (!isWeighedRight()) {
                return 3;
            }
            if (!isHeld()) {
                return 4;
            }
            return isWeightOnlyWhereTight() ? 0 : 5;
        }

        private long slackOf(int line) {
            return bowl.leftOf(bowl.boundOf(line, bowl.height), line, told);
        }

        private boolean isBalanced() {
            for (int i = 0; i < bowl.variables; i++) {
                long sum = bowl.pushes[i] * told.below;
                for (int j = 0; j < bowl.variables; j++) {
                    sum += bowl.bendOf(i, j) * told.place[j];
                }
                for (int l = 0; l < bowl.lines; l++) {
                    sum += bowl.rowOf(l, i) * told.weights[l];
                }
                if (sum != 0) {
                    return false;
                }
            }
            return true;
        }

        private boolean isWeighedRight() {
            for (int l = 0; l < bowl.lines; l++) {
                if (told.weights[l] < 0 && !bowl.isOn(l)) {
                    return false;
                }
            }
            return true;
        }

        private boolean isHeld() {
            for (int l = 0; l < bowl.lines; l++) {
                if (!bowl.isHeldBy(l, slackOf(l))) {
                    return false;
                }
            }
            return true;
        }

        private boolean isWeightOnlyWhereTight() {
            for (int l = 0; l < bowl.lines; l++) {
                if (told.weights[l] != 0 && slackOf(l) != 0) {
                    return false;
                }
            }
            return true;
        }
    }

    /** Fractions above and below a line, below it more than 0. */
    private static final class Fractions {
        // Euclid's way through two longs takes fewer than 93 steps.
        private static final int MOST_STEPS = 100;

        private Fractions() {
        }

        static long told(long above, long below, int part) {
            long shared = shared(below, above);
            if (shared == 0) {
                return 0;
            }
            return (part == 0 ? above : below) / shared;
        }

        static long shared(long a, long b) {
            long x = Math.abs(a);
            long y = Math.abs(b);
            for (int k = 0; k < MOST_STEPS && y != 0; k++) {
                long rest = x % y;
                x = y;
                y = rest;
            }
            return x;
        }

        /** Whether a / b is less than c / d, by their whole parts and what is left: a * d could wrap around. */
        static boolean isLess(long a, long b, long c, long d) {
            long p = a;
            long q = b;
            long r = c;
            long s = d;
            for (int k = 0; k < MOST_STEPS && q > 0 && s > 0; k++) {
                long left = Math.floorDiv(p, q);
                long right = Math.floorDiv(r, s);
                if (left != right) {
                    return left < right;
                }
                long leftRest = p - left * q;
                long rightRest = r - right * s;
                if (leftRest == 0 || rightRest == 0) {
                    return leftRest == 0 && rightRest != 0;
                }
                // leftRest / q is less than rightRest / s just if s / rightRest is less than q / leftRest.
                p = s;
                r = q;
                s = leftRest;
                q = rightRest;
            }
            return false;
        }
    }

    /**
     * What was sought. Each object has its own, empty with it: objects could share one only by
     * what a static field holds, and LANGUAGE.md's rule 5 lets none of that change.
     */
    private static final class Book {
        // What solve answers is -1 .. 63, a byte: so eight of them are a long, the last one lowest.
        private static final int BITS = 8;

        int noted;
        long sum;
        long leastAbove;
        long leastBelow;
        private long lastEight;

        void write(int found) {
            noted++;
            sum = sum * 31 + found;
            lastEight = lastEight << BITS | found & 255;
        }

        void offer(long above, long below) {
            if (leastBelow == 0 || Fractions.isLess(above, below, leastAbove, leastBelow)) {
                leastAbove = above;
                leastBelow = below;
            }
        }

        int lastBut(int k) {
            return (byte) (lastEight >> BITS * k);
        }
    }

    /** Rows of ints and longs; what is an int is looked at where it comes in. */
    private static final class Sheets {
        final int[] sorts = new int[SHEETS];
        final int[] lengths = new int[SHEETS];
        private final long[] cells = new long[SHEETS * MOST_CELLS];

        Sheets() {
            Arrays.fill(sorts, MISSING);
        }

        void begin(int s, int sort, int length) {
            sorts[s] = sort;
            lengths[s] = length;
            for (int i = 0; i < MOST_CELLS; i++) {
                put(s, i, 0);
            }
        }

        long at(int s, int i) {
            return cells[s * MOST_CELLS + i];
        }

        void put(int s, int i, long v) {
            cells[s * MOST_CELLS + i] = v;
        }

        boolean hasRoom(int s, int i, int n) {
            return n >= 0 && i >= 0 && i <= lengths[s] && n <= lengths[s] - i;
        }

        void move(int from, int i, int to, int j, int n) {
            System.arraycopy(cells, from * MOST_CELLS + i, cells, to * MOST_CELLS + j, n);
        }

        boolean isAllWithin(int s, long most) {
            for (int i = 0; i < lengths[s]; i++) {
                if (at(s, i) < -most || at(s, i) > most) {
                    return false;
                }
            }
            return true;
        }
    }
}

/** Systems of equations over exact fractions, by elimination with a search for pivots. */
final class Linear {
    private Linear() {
    }

    /** The rank of some rows. */
    static int rank(Fraction[][] rows) {
        return rows.length == 0 ? 0 : clear(copy(rows), rows[0].length);
    }

    /** One solution v of rows * v = right, or null if there is none; free unknowns are 0. */
    static Fraction[] solve(Fraction[][] rows, Fraction[] right, int unknowns) {
        Fraction[][] m = new Fraction[rows.length][unknowns + 1];
        for (int r = 0; r < rows.length; r++) {
            System.arraycopy(rows[r], 0, m[r], 0, unknowns);
            m[r][unknowns] = right[r];
        }
        int rank = clear(m, unknowns);
        for (int r = rank; r < m.length; r++) {
            if (m[r][unknowns].sign() != 0) {
                return null;
            }
        }
        Fraction[] v = new Fraction[unknowns];
        java.util.Arrays.fill(v, Fraction.ZERO);
        for (int r = 0; r < rank; r++) {
            int c = 0;
            while (m[r][c].sign() == 0) {
                c++;
            }
            v[c] = m[r][unknowns];
        }
        return v;
    }

    private static Fraction[][] copy(Fraction[][] rows) {
        Fraction[][] m = new Fraction[rows.length][];
        for (int r = 0; r < rows.length; r++) {
            m[r] = rows[r].clone();
        }
        return m;
    }

    private static int clear(Fraction[][] m, int columns) {
        int rank = 0;
        for (int c = 0; c < columns && rank < m.length; c++) {
            int pivot = rank;
            while (pivot < m.length && m[pivot][c].sign() == 0) {
                pivot++;
            }
            if (pivot == m.length) {
                continue;
            }
            Fraction[] row = m[pivot];
            m[pivot] = m[rank];
            m[rank] = row;
            Fraction by = row[c];
            for (int k = 0; k < row.length; k++) {
                row[k] = row[k].over(by);
            }
            for (int r = 0; r < m.length; r++) {
                if (r != rank && m[r][c].sign() != 0) {
                    Fraction factor = m[r][c];
                    for (int k = 0; k < row.length; k++) {
                        m[r][k] = m[r][k].minus(factor.times(row[k]));
                    }
                }
            }
            rank++;
        }
        return rank;
    }
}

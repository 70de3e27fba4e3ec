/** A divider by fours, after ../shared/DOC.md. Words in capitals are that document's. */
public final class DigitDivider {
    public static final int BAD = -1, NOT = -2;

    // Where -1 can be a DIGIT or a COLUMN, a refusal has to lie outside of them.
    private static final int FAR_BAD = BAD - 100;

    private static final int TABLES = 4;
    private static final int ROWS = 16;
    private static final int COLUMNS = 128;
    private static final int CELLS = ROWS * COLUMNS;
    private static final int FIRST_COLUMN = -64;
    private static final int LAST_COLUMN = 63;
    private static final int LAST_DIGIT = 2;
    private static final int[] DIGITS_NEAREST_FIRST = {0, 1, -1, 2, -2};
    private static final int MOST_SWEPT = 300;

    private final int[][] tables = new int[TABLES][CELLS];
    // Of each cell the GOOD DIGITS, a bit each: they never change, so they are found once.
    private final int[] goodDigits = new int[CELLS];
    private final Division latest = new Division();
    // A sweep divides here, for the latest division has to stay.
    private final Division swept = new Division();
    private int inUse = 0;

    public DigitDivider() {
        for (int cell = 0; cell < CELLS; cell++) {
            goodDigits[cell] = findGoodDigits(cell / COLUMNS, cell % COLUMNS + FIRST_COLUMN);
            int made = madeDigit(cell);
            for (int table = 0; table < TABLES; table++) {
                tables[table][cell] = made;
            }
        }
    }

    // ---- 1 tables

    public int digit(int table, int row, int column) {
        if (!isTable(table) || !isCell(row, column)) {
            return FAR_BAD;
        }
        return tables[table][cellAt(row, column)];
    }

    public int set(int table, int row, int column, int digit) {
        if (!isTable(table) || !isCell(row, column) || !isDigit(digit)) {
            return FAR_BAD;
        }
        int cell = cellAt(row, column);
        int before = tables[table][cell];
        tables[table][cell] = digit;
        return before;
    }

    public int make(int table) {
        if (!isTable(table)) {
            return BAD;
        }
        int changed = 0;
        for (int cell = 0; cell < CELLS; cell++) {
            changed += replace(table, cell, madeDigit(cell));
        }
        return changed;
    }

    public int copy(int from, int to) {
        if (!isTable(from) || !isTable(to)) {
            return BAD;
        }
        int changed = 0;
        for (int cell = 0; cell < CELLS; cell++) {
            changed += replace(to, cell, tables[from][cell]);
        }
        return changed;
    }

    public int good(int row, int column, int digit) {
        if (!isCell(row, column) || !isDigit(digit)) {
            return BAD;
        }
        return isGood(cellAt(row, column), digit) ? 1 : 0;
    }

    public int holds(int row, int column) {
        if (!isCell(row, column)) {
            return BAD;
        }
        return holdsAny(row, column) ? 1 : 0;
    }

    public int check(int table) {
        if (!isTable(table)) {
            return BAD;
        }
        int found = 0;
        for (int cell = 0; cell < CELLS; cell++) {
            if (!isGood(cell, tables[table][cell])) {
                found++;
            }
        }
        return found;
    }

    public int wrong(int table, int k) {
        if (!isTable(table) || k < 0) {
            return BAD;
        }
        int found = 0;
        for (int cell = 0; cell < CELLS; cell++) {
            if (!isGood(cell, tables[table][cell])) {
                if (found == k) {
                    return cell;
                }
                found++;
            }
        }
        return NOT;
    }

    // ---- 2 dividing

    public int use(int table) {
        if (!isTable(table)) {
            return BAD;
        }
        int before = inUse;
        inUse = table;
        return before;
    }

    public int divide(int a, int b) {
        if (b == 0) {
            return BAD;
        }
        latest.run(a, b, tables[inUse]);
        return latest.n;
    }

    public int quotient() {
        return latest.quotient;
    }

    public int rest() {
        return latest.rest;
    }

    public int left() {
        return latest.firstLeft;
    }

    public int step(int j, int what) {
        if (j < 1 || j > latest.n) {
            return FAR_BAD;
        }
        switch (what) {
            case 0: return latest.digits[j];
            case 1: return latest.estimates[j];
            default: return FAR_BAD;
        }
    }

    public long state(int j, int what) {
        if (j < 0 || j > latest.n) {
            return 0;
        }
        switch (what) {
            case 0: return latest.sums[j];
            case 1: return latest.carries[j];
            case 2: return latest.qs[j];
            case 3: return latest.rs[j];
            default: return 0;
        }
    }

    public int told(int what) {
        switch (what) {
            case 0: return latest.row;
            case 1: return latest.s;
            case 2: return latest.t;
            case 3: return latest.n;
            case 4: return latest.digitsNotZero;
            default: return BAD;
        }
    }

    public int sweep(int low, int many, int b) {
        if (many < 1 || many > MOST_SWEPT || b == 0) {
            return BAD;
        }
        int found = 0;
        for (int offset = 0; offset < many; offset++) {
            int a = low + offset;
            swept.run(a, b, tables[inUse]);
            if (swept.quotient != a / b || swept.rest != a % b) {
                found++;
            }
        }
        return found;
    }

    // ---- cells

    private static boolean isTable(int table) {
        return table >= 0 && table < TABLES;
    }

    private static boolean isCell(int row, int column) {
        return row >= 0 && row < ROWS && column >= FIRST_COLUMN && column <= LAST_COLUMN;
    }

    private static boolean isDigit(int digit) {
        return digit >= -LAST_DIGIT && digit <= LAST_DIGIT;
    }

    private static int cellAt(int row, int column) {
        return row * COLUMNS + column - FIRST_COLUMN;
    }

    private int replace(int table, int cell, int digit) {
        if (tables[table][cell] == digit) {
            return 0;
        }
        tables[table][cell] = digit;
        return 1;
    }

    private boolean isGood(int cell, int digit) {
        return (goodDigits[cell] >> (digit + LAST_DIGIT) & 1) == 1;
    }

    private int madeDigit(int cell) {
        for (int digit : DIGITS_NEAREST_FIRST) {
            if (isGood(cell, digit)) {
                return digit;
            }
        }
        return 0;
    }

    private static int findGoodDigits(int row, int column) {
        int found = 0;
        for (int digit = -LAST_DIGIT; digit <= LAST_DIGIT; digit++) {
            if (!holdsAny(row, column) || staysWithin(row, column, digit)) {
                found |= 1 << (digit + LAST_DIGIT);
            }
        }
        return found;
    }

    // The divisors of a cell are counted in parts of 128, so that the edges of what is WITHIN,
    // d = 3 |v| / 8 with v in parts of 16, fall on whole numbers.

    /** The least divisor of a row beside which some v of the cell, its upper end too, is WITHIN. */
    private static int leastDivisor(int row, int column) {
        int nearestToZero = Math.max(column, -(column + 2));
        return Math.max(4 * (16 + row), 3 * nearestToZero);
    }

    private static int endOfDivisors(int row) {
        return 4 * (17 + row);
    }

    // The row's last divisor is not of the row, so a least one that comes to it leaves none.
    private static boolean holdsAny(int row, int column) {
        return leastDivisor(row, column) < endOfDivisors(row);
    }

    /**
     * Whether v - k d is - 2 d / 3 .. 2 d / 3 for all that a cell HOLDS, if it HOLDS any. Such a
     * cell's open edges don't matter, for what is true of all that is inside is true of its edge.
     * What is WITHIN is by that alone not too far up for 2, nor too far down for -2; for the other
     * digits the cell's own upper or lower end of v decides, at both ends of the divisors, as all
     * is linear in d. (Both sides are 384 times as much.)
     */
    private static boolean staysWithin(int row, int column, int digit) {
        int least = leastDivisor(row, column);
        int end = endOfDivisors(row);
        int top = 24 * (column + 2);
        int bottom = 24 * column;
        int most = 3 * digit + 2;
        int fewest = 3 * digit - 2;
        boolean notAbove = digit == LAST_DIGIT || top <= most * least && top <= most * end;
        boolean notBelow = digit == -LAST_DIGIT || bottom >= fewest * least && bottom >= fewest * end;
        return notAbove && notBelow;
    }

    /**
     * One division, with all that can be asked about it; its rows are used again. Before the first
     * one all is 0, R too: it is -1 only once something is divided.
     */
    private static final class Division {
        // A size of 2^31 by 1 takes the most: (31 + 3) / 2.
        private static final int MOST_DIGITS = 17;
        private static final long DOUBLING_END = 1L << 32;

        private final int[] digits = new int[MOST_DIGITS + 1];
        private final int[] estimates = new int[MOST_DIGITS + 1];
        private final long[] sums = new long[MOST_DIGITS + 1];
        private final long[] carries = new long[MOST_DIGITS + 1];
        private final long[] qs = new long[MOST_DIGITS + 1];
        private final long[] rs = new long[MOST_DIGITS + 1];
        private int row = 0;
        private int s = 0;
        private int t = 0;
        private int n = 0;
        private int digitsNotZero = 0;
        private int firstLeft = 0;
        private int quotient = 0;
        private int rest = 0;

        /** b is not 0; table has all its cells. */
        private void run(int a, int b, int[] table) {
            long p = Math.abs((long) a);
            long m = Math.abs((long) b);
            clear();
            if (p < m) {
                quotient = 0;
                rest = a;
                return;
            }
            long d = begin(p, m);
            for (int j = 1; j <= n; j++) {
                takeDigit(j, d, table);
            }
            finish(d, (a < 0) != (b < 0), a < 0);
        }

        private void clear() {
            sums[0] = 0;
            carries[0] = 0;
            qs[0] = 0;
            rs[0] = -1;
            row = 0;
            s = 0;
            t = 0;
            n = 0;
            digitsNotZero = 0;
            firstLeft = 0;
        }

        /** Puts p and m in their places; answers d. */
        private long begin(long p, long m) {
            s = doublings(p);
            t = doublings(m);
            int u = t - s;
            int h = u % 2 == 0 ? 2 : 3;
            n = Math.min((u + h) / 2, MOST_DIGITS);
            long d = m << t;
            row = (int) (d >> 27) & (ROWS - 1);
            sums[0] = (p << s) * 8 >> h;
            return d;
        }

        private static int doublings(long size) {
            int times = 0;
            while (times < 31 && size << (times + 1) < DOUBLING_END) {
                times++;
            }
            return times;
        }

        private void takeDigit(int j, long d, int[] table) {
            long sum = sums[j - 1] << 2;
            long carry = carries[j - 1] << 2;
            int e = (int) ((sum >> 31) + (carry >> 31));
            int column = Math.max(FIRST_COLUMN, Math.min(LAST_COLUMN, e));
            int k = table[cellAt(row, column)];
            long x = -8 * k * d;
            estimates[j] = e;
            digits[j] = k;
            sums[j] = sum ^ carry ^ x;
            carries[j] = (sum & carry | sum & x | carry & x) << 1;
            writeQuotient(j, k);
            if (k != 0) {
                digitsNotZero++;
            }
            // Up to the first digit that LEFT the remainder is small: three times it is a long.
            if (firstLeft == 0 && 3 * Math.abs(sums[j] + carries[j]) > 16 * d) {
                firstLeft = j;
            }
        }

        private void writeQuotient(int j, int k) {
            long q = qs[j - 1];
            long r = rs[j - 1];
            qs[j] = k >= 0 ? 4 * q + k : 4 * r + 4 + k;
            rs[j] = k > 0 ? 4 * q + k - 1 : 4 * r + 3 + k;
        }

        private void finish(long d, boolean quotientBelow, boolean restBelow) {
            long w = sums[n] + carries[n];
            long size = w < 0 ? rs[n] : qs[n];
            long remainder = (w < 0 ? w + 8 * d : w) / (8L << t);
            quotient = (int) (quotientBelow ? -size : size);
            rest = (int) (restBelow ? -remainder : remainder);
        }
    }
}

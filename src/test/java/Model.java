import java.math.BigInteger;
import java.util.ArrayList;
import java.util.List;

/**
 * The document once more, told as differently from the program as may be: GOOD by the corners of
 * a cell, the division in whole numbers of any size that are cut to 64 bits, bit by bit.
 */
final class Model {
    private static final boolean[][][] GOOD = new boolean[16][128][5];

    static {
        for (int i = 0; i < 16; i++) {
            for (int e = -64; e < 64; e++) {
                for (int k = -2; k <= 2; k++) {
                    GOOD[i][e + 64][k + 2] = !isHeld(i, e) || staysNear(i, e, k);
                }
            }
        }
    }

    private final int[][][] tables = new int[4][16][128];
    private int inUse = 0;
    private Division latest = new Division();

    /** What is known of a division; of none at all it has no states. */
    private static final class Division {
        int row, s, t, n, notZero, left, quotient, rest;
        final List<int[]> steps = new ArrayList<>();
        final List<long[]> states = new ArrayList<>();
    }

    Model() {
        for (int table = 0; table < 4; table++) {
            make(table);
        }
    }

    // ---- 1 tables

    int digit(int table, int i, int e) {
        return in(table, 0, 3) && in(i, 0, 15) && in(e, -64, 63) ? tables[table][i][e + 64] : -101;
    }

    int set(int table, int i, int e, int digit) {
        int before = digit(table, i, e);
        if (before == -101 || !in(digit, -2, 2)) {
            return -101;
        }
        tables[table][i][e + 64] = digit;
        return before;
    }

    int make(int table) {
        int changed = 0;
        for (int cell = 0; cell < 2048 && in(table, 0, 3); cell++) {
            int i = cell / 128, e = cell % 128 - 64;
            changed += set(table, i, e, made(i, e)) != made(i, e) ? 1 : 0;
        }
        return in(table, 0, 3) ? changed : -1;
    }

    int copy(int from, int to) {
        if (!in(from, 0, 3) || !in(to, 0, 3)) {
            return -1;
        }
        int changed = 0;
        for (int cell = 0; cell < 2048; cell++) {
            int i = cell / 128, e = cell % 128 - 64;
            int digit = digit(from, i, e);
            changed += set(to, i, e, digit) != digit ? 1 : 0;
        }
        return changed;
    }

    int good(int i, int e, int k) {
        return in(i, 0, 15) && in(e, -64, 63) && in(k, -2, 2) ? isGood(i, e, k) ? 1 : 0 : -1;
    }

    int holds(int i, int e) {
        return in(i, 0, 15) && in(e, -64, 63) ? isHeld(i, e) ? 1 : 0 : -1;
    }

    int check(int table) {
        return in(table, 0, 3) ? wrongCells(table).size() : -1;
    }

    int wrong(int table, int k) {
        if (!in(table, 0, 3) || k < 0) {
            return -1;
        }
        List<Integer> cells = wrongCells(table);
        return k < cells.size() ? cells.get(k) : -2;
    }

    private static boolean in(int number, int least, int most) {
        return number >= least && number <= most;
    }

    private List<Integer> wrongCells(int table) {
        List<Integer> cells = new ArrayList<>();
        for (int i = 0; i < 16; i++) {
            for (int e = -64; e < 64; e++) {
                if (!isGood(i, e, tables[table][i][e + 64])) {
                    cells.add(128 * i + e + 64);
                }
            }
        }
        return cells;
    }

    static int made(int i, int e) {
        int best = 3;
        for (int k = -2; k <= 2; k++) {
            boolean nearer = Math.abs(k) < Math.abs(best) || Math.abs(k) == Math.abs(best) && k > best;
            if (isGood(i, e, k) && nearer) {
                best = k;
            }
        }
        return best == 3 ? 0 : best;
    }

    static boolean isGood(int i, int e, int k) {
        return GOOD[i][e + 64][k + 2];
    }

    // Corners are in parts of 384, for d and for v: there all of them are whole.

    private static long[][] corners(int i, int e) {
        long[] ds = {12 * (16 + i), 12 * (17 + i)};
        long[] vs = {24 * e, 24 * (e + 2)};
        long[][] all = new long[12][];
        int many = 0;
        for (long d : ds) {
            for (long v : new long[] {vs[0], vs[1], 8 * d / 3, -8 * d / 3}) {
                all[many++] = new long[] {d, v};
            }
        }
        for (long v : vs) {
            all[many++] = new long[] {3 * v / 8, v};
            all[many++] = new long[] {-3 * v / 8, v};
        }
        return java.util.Arrays.stream(all)
            .filter(c -> ds[0] <= c[0] && c[0] <= ds[1] && vs[0] <= c[1] && c[1] <= vs[1]
                && Math.abs(3 * c[1]) <= 8 * c[0])
            .toArray(long[][]::new);
    }

    /** A cell HOLDS a pair just if the middle of its corners is on none of its edges. */
    static boolean isHeld(int i, int e) {
        long[][] corners = corners(i, e);
        long d = 0, v = 0;
        for (long[] c : corners) {
            d += c[0];
            v += c[1];
        }
        long many = corners.length;
        return many > 0 && d > many * 12 * (16 + i) && d < many * 12 * (17 + i)
            && v > many * 24 * e && v < many * 24 * (e + 2) && Math.abs(3 * v) < 8 * d;
    }

    private static boolean staysNear(int i, int e, int k) {
        for (long[] c : corners(i, e)) {
            if (Math.abs(3 * (c[1] - k * c[0])) > 2 * c[0]) {
                return false;
            }
        }
        return true;
    }

    // ---- 2 dividing

    int use(int table) {
        int before = inUse;
        inUse = in(table, 0, 3) ? table : inUse;
        return in(table, 0, 3) ? before : -1;
    }

    int divide(int a, int b) {
        latest = b == 0 ? latest : divided(a, b);
        return b == 0 ? -1 : latest.n;
    }

    int quotient() {
        return latest.quotient;
    }

    int rest() {
        return latest.rest;
    }

    int left() {
        return latest.left;
    }

    int step(int j, int what) {
        return in(j, 1, latest.n) && in(what, 0, 1) ? latest.steps.get(j - 1)[what] : -101;
    }

    long state(int j, int what) {
        return in(j, 0, latest.states.size() - 1) && in(what, 0, 3) ? latest.states.get(j)[what] : 0;
    }

    int told(int what) {
        int[] all = {latest.row, latest.s, latest.t, latest.n, latest.notZero};
        return in(what, 0, 4) ? all[what] : -1;
    }

    int sweep(int low, int many, int b) {
        if (!in(many, 1, 300) || b == 0) {
            return -1;
        }
        int found = 0;
        for (int offset = 0; offset < many; offset++) {
            int a = big(low).add(big(offset)).intValue();
            Division division = divided(a, b);
            BigInteger[] due = big(a).divideAndRemainder(big(b));
            boolean right = division.quotient == due[0].intValue() && division.rest == due[1].intValue();
            found += right ? 0 : 1;
        }
        return found;
    }

    private static BigInteger big(long number) {
        return BigInteger.valueOf(number);
    }

    private static int doublings(BigInteger size) {
        int times = 0;
        while (size.shiftLeft(times + 1).compareTo(BigInteger.ONE.shiftLeft(32)) < 0) {
            times++;
        }
        return times;
    }

    private Division divided(int a, int b) {
        Division to = new Division();
        BigInteger p = big(a).abs();
        BigInteger m = big(b).abs();
        to.rest = a;
        to.states.add(new long[] {0, 0, 0, -1});
        if (p.compareTo(m) < 0) {
            return to;
        }
        to.s = doublings(p);
        to.t = doublings(m);
        int u = to.t - to.s;
        int h = 2 + u % 2;
        to.n = (u + h) / 2;
        BigInteger d = m.shiftLeft(to.t);
        to.row = d.divide(big(1L << 27)).mod(big(16)).intValueExact();
        to.states.get(0)[0] = p.shiftLeft(to.s).multiply(big(8)).divide(big(1L << h)).longValueExact();
        for (int j = 1; j <= to.n; j++) {
            takeDigit(to, j, d);
        }
        end(to, a, b, d);
        return to;
    }

    private void takeDigit(Division to, int j, BigInteger d) {
        long[] before = to.states.get(j - 1);
        long sum = big(before[0]).multiply(big(4)).longValue();
        long carry = big(before[1]).multiply(big(4)).longValue();
        int e = big(Math.floorDiv(sum, 1L << 31)).add(big(Math.floorDiv(carry, 1L << 31))).intValue();
        int k = tables[inUse][to.row][e < -64 ? 0 : e > 63 ? 127 : e + 64];
        long x = d.multiply(big(-8L * k)).longValue();
        long newSum = 0, newCarry = 0;
        for (int bit = 0; bit < 64; bit++) {
            long ones = (sum >>> bit & 1) + (carry >>> bit & 1) + (x >>> bit & 1);
            newSum += ones % 2 << bit;
            newCarry += 2 * (ones / 2 << bit);
        }
        long q = 4 * before[2] + k;
        to.states.add(new long[] {newSum, newCarry, q, q - 1});
        to.steps.add(new int[] {k, e});
        to.notZero += k * k > 0 ? 1 : 0;
        BigInteger size = big(big(newSum).add(big(newCarry)).longValue()).abs();
        if (to.left == 0 && size.multiply(big(3)).compareTo(d.multiply(big(16))) > 0) {
            to.left = j;
        }
    }

    private static void end(Division to, int a, int b, BigInteger d) {
        long[] last = to.states.get(to.n);
        BigInteger w = big(big(last[0]).add(big(last[1])).longValue());
        BigInteger q = big(last[2]);
        if (w.signum() < 0) {
            w = w.add(d.multiply(big(8)));
            q = q.subtract(BigInteger.ONE);
        }
        w = w.divide(big(8).shiftLeft(to.t));
        to.quotient = (a < 0 ^ b < 0 ? q.negate() : q).intValue();
        to.rest = (a < 0 ? w.negate() : w).intValue();
    }
}

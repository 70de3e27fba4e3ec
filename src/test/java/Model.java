import java.math.BigInteger;

/**
 * The document once more, told as differently from the program as may be: GOOD by the corners of
 * a cell, the division in whole numbers of any size that are cut to 64 bits, bit by bit.
 */
final class Model {
    static final int DIGITS_AT_MOST = 17;

    final int[][][] tables = new int[4][16][128];
    int inUse = 0;

    // the latest division
    int row, s, t, n, notZero, left, quotient, rest;
    final int[] digits = new int[DIGITS_AT_MOST + 1];
    final int[] estimates = new int[DIGITS_AT_MOST + 1];
    final long[] sums = new long[DIGITS_AT_MOST + 1];
    final long[] carries = new long[DIGITS_AT_MOST + 1];
    final long[] qs = new long[DIGITS_AT_MOST + 1];

    Model() {
        for (int table = 0; table < 4; table++) {
            make(table);
        }
    }

    int make(int table) {
        int changed = 0;
        for (int i = 0; i < 16; i++) {
            for (int e = -64; e < 64; e++) {
                changed += set(table, i, e, made(i, e)) != made(i, e) ? 1 : 0;
            }
        }
        return changed;
    }

    int set(int table, int i, int e, int digit) {
        int before = tables[table][i][e + 64];
        tables[table][i][e + 64] = digit;
        return before;
    }

    static int made(int i, int e) {
        int best = 3;
        for (int k = -2; k <= 2; k++) {
            boolean nearer = Math.abs(k) < Math.abs(best) || Math.abs(k) == Math.abs(best) && k > best;
            if (good(i, e, k) && nearer) {
                best = k;
            }
        }
        return best == 3 ? 0 : best;
    }

    // Corners are in parts of 384, for d and for v: there all of them are whole.

    private static long[][] corners(int i, int e) {
        long[] ds = {12 * (16 + i), 12 * (17 + i)};
        long[] vs = {24 * e, 24 * (e + 2)};
        long[][] all = new long[12][];
        int many = 0;
        for (long d : ds) {
            for (long v : new long[] {vs[0], vs[1], 8 * d / 3, -8 * d / 3}) {
                all[many++] = new long[] {d, v};
            }
        }
        for (long v : vs) {
            all[many++] = new long[] {3 * v / 8, v};
            all[many++] = new long[] {-3 * v / 8, v};
        }
        return java.util.Arrays.stream(all)
            .filter(c -> ds[0] <= c[0] && c[0] <= ds[1] && vs[0] <= c[1] && c[1] <= vs[1]
                && Math.abs(3 * c[1]) <= 8 * c[0])
            .toArray(long[][]::new);
    }

    /** A cell HOLDS a pair just if the middle of its corners is on none of its edges. */
    static boolean holds(int i, int e) {
        long[][] corners = corners(i, e);
        long d = 0, v = 0;
        for (long[] c : corners) {
            d += c[0];
            v += c[1];
        }
        long many = corners.length;
        return many > 0 && d > many * 12 * (16 + i) && d < many * 12 * (17 + i)
            && v > many * 24 * e && v < many * 24 * (e + 2) && Math.abs(3 * v) < 8 * d;
    }

    static boolean good(int i, int e, int k) {
        if (holds(i, e)) {
            for (long[] c : corners(i, e)) {
                if (Math.abs(3 * (c[1] - k * c[0])) > 2 * c[0]) {
                    return false;
                }
            }
        }
        return true;
    }

    int check(int table) {
        int k = 0;
        while (wrong(table, k) >= 0) {
            k++;
        }
        return k;
    }

    int wrong(int table, int k) {
        int before = 0;
        for (int i = 0; i < 16; i++) {
            for (int e = -64; e < 64; e++) {
                if (!good(i, e, tables[table][i][e + 64]) && before++ == k) {
                    return 128 * i + e + 64;
                }
            }
        }
        return -2;
    }

    private static BigInteger big(long number) {
        return BigInteger.valueOf(number);
    }

    private static int doublings(BigInteger size) {
        int times = 0;
        while (size.shiftLeft(times + 1).compareTo(BigInteger.ONE.shiftLeft(32)) < 0) {
            times++;
        }
        return times;
    }

    void divide(int a, int b) {
        BigInteger p = big(a).abs();
        BigInteger m = big(b).abs();
        row = s = t = n = notZero = left = quotient = 0;
        rest = a;
        sums[0] = carries[0] = qs[0] = 0;
        if (p.compareTo(m) < 0) {
            return;
        }
        s = doublings(p);
        t = doublings(m);
        int u = t - s;
        int h = 2 + u % 2;
        n = (u + h) / 2;
        BigInteger d = m.shiftLeft(t);
        row = d.divide(big(1L << 27)).mod(big(16)).intValueExact();
        sums[0] = p.shiftLeft(s).multiply(big(8)).divide(big(1L << h)).longValueExact();
        for (int j = 1; j <= n; j++) {
            digit(j, d);
        }
        end(a, b, d);
    }

    private void digit(int j, BigInteger d) {
        long sum = big(sums[j - 1]).multiply(big(4)).longValue();
        long carry = big(carries[j - 1]).multiply(big(4)).longValue();
        int e = big(Math.floorDiv(sum, 1L << 31)).add(big(Math.floorDiv(carry, 1L << 31))).intValue();
        int k = tables[inUse][row][e < -64 ? 0 : e > 63 ? 127 : e + 64];
        long x = d.multiply(big(-8L * k)).longValue();
        BigInteger newSum = BigInteger.ZERO, newCarry = BigInteger.ZERO;
        for (int bit = 0; bit < 64; bit++) {
            long ones = (sum >>> bit & 1) + (carry >>> bit & 1) + (x >>> bit & 1);
            newSum = newSum.add(big(ones % 2).shiftLeft(bit));
            newCarry = newCarry.add(big(ones / 2).shiftLeft(bit + 1));
        }
        sums[j] = newSum.longValue();
        carries[j] = newCarry.longValue();
        estimates[j] = e;
        digits[j] = k;
        qs[j] = 4 * qs[j - 1] + k;
        notZero += k * k > 0 ? 1 : 0;
        BigInteger size = big(newSum.add(newCarry).longValue()).abs();
        if (left == 0 && size.multiply(big(3)).compareTo(d.multiply(big(16))) > 0) {
            left = j;
        }
    }

    private void end(int a, int b, BigInteger d) {
        BigInteger w = big(big(sums[n]).add(big(carries[n])).longValue());
        BigInteger q = big(qs[n]);
        if (w.signum() < 0) {
            w = w.add(d.multiply(big(8)));
            q = q.subtract(BigInteger.ONE);
        }
        w = w.divide(big(8).shiftLeft(t));
        quotient = (a < 0 ^ b < 0 ? q.negate() : q).intValue();
        rest = (a < 0 ? w.negate() : w).intValue();
    }
}

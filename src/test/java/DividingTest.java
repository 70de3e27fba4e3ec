/**
 * '==== 2' and promises 10 to 18, sentence by sentence: dividing, and what is told of it. The answers
 * due were worked out by hand; most spoiled tables are rows of zeros, by which a remainder only grows.
 */
public final class DividingTest {
    private static final int MIN = Integer.MIN_VALUE, MAX = Integer.MAX_VALUE;
    private static final Answers A = new Answers();

    public static void main(String[] args) {
        sizes();
        sizeAtLeast();
        doublings();
        howManyDigits();
        rows();
        firstSum();
        fourTimesGoingRound();
        eachCutDown();
        columnGoesRound();
        columnsAtTheEnds();
        nearestColumn();
        sumAndCarry();
        remainderGoesOn();
        quotientAsItComes();
        lessIsQuotientLessOne();
        endBelowZero();
        endAtZero();
        endGoesRound();
        noDigits();
        signs();
        intsGoRound();
        leftAtItsEdge();
        use();
        useRefused();
        divide();
        divideByTheTableInUse();
        divideRefused();
        quotientAndRestBefore();
        quotientAndRestOfTheLatest();
        left();
        leftNone();
        step();
        stepRefused();
        state();
        stateOfNoneSuch();
        told();
        toldWithoutDigits();
        toldRefused();
        sweepRight();
        sweepSoMany();
        sweepGoesRound();
        sweepWrong();
        sweepRefused();
        sweepLeavesTheLatest();
        A.end();
    }

    /** A new object whose table 0, in use, has one digit in all of a row. */
    private static DigitDivider withRow(int row, int digit) {
        DigitDivider x = new DigitDivider();
        fillRow(x, 0, row, digit);
        return x;
    }

    private static void fillRow(DigitDivider x, int table, int row, int digit) {
        for (int e = -64; e < 64; e++) {
            x.set(table, row, e, digit);
        }
    }

    private static void divided(DigitDivider x, int a, int b, int n, int quotient, int rest) {
        String call = "divide(" + a + ", " + b + ")";
        A.due(call, x.divide(a, b), n);
        A.due(call + ", quotient()", x.quotient(), quotient);
        A.due(call + ", rest()", x.rest(), rest);
    }

    // ==== 2

    private static void sizes() {
        A.says("==== 2: p and m are their sizes (as longs, without sign)");
        DigitDivider x = new DigitDivider();
        divided(x, MIN, 1, 17, MIN, 0);
        A.due("told(1), of 2^31", x.told(1), 0);
        divided(x, MIN, MIN, 1, 1, 0);
        A.due("told(2), of 2^31", x.told(2), 0);
        divided(x, 5, MIN, 0, 0, 5);
        divided(x, MIN, MAX, 2, -1, -1);
        divided(x, -1, -1, 1, 1, 0);
        divided(x, -MAX, MAX, 1, -1, 0);
    }

    private static void sizeAtLeast() {
        A.says("==== 2: With p at least m");
        DigitDivider x = new DigitDivider();
        for (int m : new int[] {1, 2, 3, 1 << 30, MAX}) {
            divided(x, m, m, 1, 1, 0);
            divided(x, -m, m, 1, -1, 0);
            divided(x, m - 1, m, 0, 0, m - 1);
            divided(x, 1 - m, m, 0, 0, 1 - m);
        }
        divided(x, MIN, MIN, 1, 1, 0);
        divided(x, MAX, MIN, 0, 0, MAX);
        divided(x, -MAX, MIN, 0, 0, -MAX);
    }

    private static void doublings() {
        A.says("==== 2: how many times these can be doubled without coming to 2^32");
        DigitDivider x = new DigitDivider();
        int[][] sizes = {{1, 31}, {2, 30}, {3, 30}, {4, 29}, {(1 << 30) - 1, 2}, {1 << 30, 1}, {MAX, 1}, {MIN, 0}};
        for (int[] size : sizes) {
            x.divide(size[0], 1);
            A.due("told(1) of " + size[0], x.told(1), size[1]);
            A.due("told(2) of 1", x.told(2), 31);
            x.divide(MIN, size[0]);
            A.due("told(2) of " + size[0], x.told(2), size[1]);
            A.due("told(1) of MIN", x.told(1), 0);
        }
    }

    private static void howManyDigits() {
        A.says("==== 2: u is t - s; h is 2, if u is even, else 3; n is (u + h) / 2");
        DigitDivider x = new DigitDivider();
        int[] due = {
            1, 2, 2, 3, 3, 4, 4, 5, 5, 6, 6, 7, 7, 8, 8, 9, 9, 10, 10, 11, 11, 12, 12, 13, 13, 14, 14, 15, 15, 16, 16, 17,
        };
        for (int u = 0; u < 32; u++) {
            A.due("divide(1 << " + u + ", 1)", x.divide(1 << u, 1), due[u]);
            A.due("told(3) for u = " + u, x.told(3), due[u]);
            // s and h: 2^31 times 2 if u is even, else times 1.
            A.due("state(0, 0) for u = " + u, x.state(0, 0), u % 2 == 0 ? 1L << 32 : 1L << 31);
        }
    }

    private static void rows() {
        A.says("==== 2: d is m 2^t; i is (d / 2^27) modulo 16");
        DigitDivider x = new DigitDivider();
        for (int i = 0; i < 16; i++) {
            x.divide(MIN, 16 + i);
            A.due("told(0) of " + (16 + i), x.told(0), i);
            x.divide(MIN, -((16 + i) << 26));
            A.due("told(0) of -" + (16 + i) + " 2^26", x.told(0), i);
            x.divide(MIN, ((17 + i) << 22) - 1);
            A.due("told(0) of the last of the row " + i, x.told(0), i);
        }
        int[][] others = {{1, 0}, {3, 8}, {33, 0}, {63, 15}, {MAX, 15}, {MIN, 0}};
        for (int[] other : others) {
            x.divide(MIN, other[0]);
            A.due("told(0) of " + other[0], x.told(0), other[1]);
        }
    }

    private static void firstSum() {
        A.says("==== 2: SUM (a long) is p 2^s 8 / 2^h, CARRY 0. .. Q and R .. 0 and -1 at first");
        DigitDivider x = new DigitDivider();
        firstState(x, 5, 5, 5L << 30);
        firstState(x, 1, 1, 1L << 32);
        firstState(x, MIN, MIN, 1L << 32);
        firstState(x, MIN, MAX, 1L << 31);
        firstState(x, MIN, 1, 1L << 31);
        firstState(x, MAX, 1, (1L << 33) - 4);
        firstState(x, -100, 7, 50L << 27);
    }

    private static void firstState(DigitDivider x, int a, int b, long sum) {
        x.divide(a, b);
        String of = " of " + a + " by " + b;
        A.due("state(0, 0)" + of, x.state(0, 0), sum);
        A.due("state(0, 1)" + of, x.state(0, 1), 0);
        A.due("state(0, 2)" + of, x.state(0, 2), 0);
        A.due("state(0, 3)" + of, x.state(0, 3), -1);
    }

    private static void fourTimesGoingRound() {
        A.says("==== 2: Then n times: both become four times as much (going round)");
        DigitDivider x = withRow(0, 0);
        x.divide(MIN, 1);
        A.due("state(15, 0)", x.state(15, 0), 1L << 61);
        A.due("state(16, 0)", x.state(16, 0), Long.MIN_VALUE);
        A.due("state(17, 0)", x.state(17, 0), 0);
        // 2^33 - 4, 16 times four times as much: 2^65 - 2^34.
        x.divide(MAX, 1);
        A.due("state(16, 0) of MAX, 1", x.state(16, 0), -(1L << 34));
        A.due("state(16, 1) of MAX, 1", x.state(16, 1), 0);
    }

    private static void eachCutDown() {
        A.says("==== 2: e is SUM / 2^31 and CARRY / 2^31 (each cut down)");
        DigitDivider x = new DigitDivider();
        // 65 2^27 by 129 2^24: the digit 1 leaves -194 2^27 and 130 2^27; four times as much is
        // -48.5 2^31 and 32.5 2^31: -49 and 32, where both together would be -16.
        x.divide(260, 129);
        A.due("step(1, 1)", x.step(1, 1), 4);
        A.due("state(1, 0)", x.state(1, 0), -194L << 27);
        A.due("state(1, 1)", x.state(1, 1), 130L << 27);
        A.due("step(2, 1)", x.step(2, 1), -17);
        // 4 (2^33 - 4) is 15 2^31 and more; the digit 2 leaves -16, whose four times is cut to -1.
        x.divide(MAX, 1);
        A.due("step(1, 1) of MAX, 1", x.step(1, 1), 15);
        A.due("state(1, 0) of MAX, 1", x.state(1, 0), -16);
        A.due("step(2, 1) of MAX, 1", x.step(2, 1), -1);
    }

    private static void columnGoesRound() {
        A.says("==== 2: as an int that goes round");
        DigitDivider x = withRow(0, 0);
        x.set(0, 0, 0, 1);
        // SUM is 2^31 at first and four times as much each time: 2^61, and 2^63, whose e is -2^32.
        x.divide(MIN, 1);
        A.due("step(15, 1) of MIN, 1", x.step(15, 1), 1 << 30);
        A.due("step(16, 1) of MIN, 1", x.step(16, 1), 0);
        A.due("step(16, 0) of MIN, 1", x.step(16, 0), 1);
        // Here it is 2^32 at first; 2^62 has the e 2^31, as an int the least, nearest to column -64.
        x.set(0, 0, -64, -1);
        x.divide(1 << 30, 1);
        A.due("step(14, 1) of 2^30, 1", x.step(14, 1), 1 << 29);
        A.due("step(14, 0) of 2^30, 1", x.step(14, 0), 0);
        A.due("step(15, 1) of 2^30, 1", x.step(15, 1), MIN);
        A.due("step(15, 0) of 2^30, 1", x.step(15, 0), -1);
    }

    private static void columnsAtTheEnds() {
        A.says("==== 2: k is the DIGIT at (i, e) (the first and the last column)");
        DigitDivider x = withRow(0, 0);
        x.set(0, 0, 63, 2);
        x.divide(126, 1);
        A.due("step(2, 1) of 126, 1", x.step(2, 1), 63);
        A.due("step(2, 0) of 126, 1", x.step(2, 0), 2);
        x.set(0, 0, 4, 1);
        x.set(0, 0, -64, -1);
        x.divide(8, 1);
        A.due("step(2, 0) of 8, 1", x.step(2, 0), 0);
        A.due("step(3, 1) of 8, 1", x.step(3, 1), -64);
        A.due("step(3, 0) of 8, 1", x.step(3, 0), -1);
    }

    private static void nearestColumn() {
        A.says("==== 2: or the nearest COLUMN's");
        DigitDivider x = withRow(0, 0);
        x.set(0, 0, 63, 2);
        x.divide(8, 1);
        A.due("step(3, 1) of 8, 1", x.step(3, 1), 64);
        A.due("step(3, 0) of 8, 1", x.step(3, 0), 2);
        x.set(0, 0, 4, 1);
        x.set(0, 0, -64, -1);
        x.divide(268, 33);
        A.due("step(3, 1) of 268, 33", x.step(3, 1), -65);
        A.due("step(3, 0) of 268, 33", x.step(3, 0), -1);
        // 100 by 7: SUM is 12.5 2^31, then 50 2^31, then 200 2^31.
        x = withRow(12, 0);
        x.set(0, 12, 63, 2);
        divided(x, 100, 7, 3, 2, 86);
        A.due("step(2, 1) of 100, 7", x.step(2, 1), 50);
        A.due("step(2, 0) of 100, 7", x.step(2, 0), 0);
        A.due("step(3, 1) of 100, 7", x.step(3, 1), 200);
        A.due("step(3, 0) of 100, 7", x.step(3, 0), 2);
        // By 2 and then 0 it is (12.5 - 28) 2^31, then -62 2^31, then -248 2^31. Q is 31 at the end,
        // w below 0: 30, and 100 - 7 30 is the rest.
        x.set(0, 12, 12, 2);
        x.set(0, 12, -64, -1);
        divided(x, 100, 7, 3, 30, -110);
        A.due("step(3, 1) downwards", x.step(3, 1), -248);
        A.due("step(3, 0) downwards", x.step(3, 0), -1);
    }

    private static void sumAndCarry() {
        A.says("==== 2: the new SUM is the exclusive or .. the new CARRY twice what the three have in at least two of them");
        DigitDivider x = new DigitDivider();
        // 13 2^31 less 9 2^31: 01101 and ..10111 have ..11010 in one of them, 00101 in both.
        x.divide(13, 9);
        A.due("state(1, 0) of 13, 9", x.state(1, 0), -6L << 31);
        A.due("state(1, 1) of 13, 9", x.state(1, 1), 10L << 31);
        // 7 2^31 less 12 2^31: 00111 and ..10100 have ..10011 and 00100; four times as much, and
        // 12 2^31 more: ..1001100, 0100000, 0001100 have ..1100000 in one or three, 0001100 in two.
        x.divide(7, 3);
        A.due("state(1, 0) of 7, 3", x.state(1, 0), -13L << 31);
        A.due("state(1, 1) of 7, 3", x.state(1, 1), 8L << 31);
        A.due("step(2, 0) of 7, 3", x.step(2, 0), -1);
        A.due("state(2, 0) of 7, 3", x.state(2, 0), -32L << 31);
        A.due("state(2, 1) of 7, 3", x.state(2, 1), 24L << 31);
    }

    private static void remainderGoesOn() {
        A.says("==== 2: with x = - 8 k d (so SUM and CARRY, going round, are four times as much less 8 k d)");
        for (int k = -2; k <= 2; k++) {
            DigitDivider x = withRow(0, k);
            x.divide(MIN, 1);
            long both = 1L << 31;
            for (int j = 1; j <= 17; j++) {
                both = 4 * both - k * (1L << 34);
                A.due("SUM and CARRY behind " + j + " by " + k, x.state(j, 0) + x.state(j, 1), both);
            }
        }
    }

    private static void quotientAsItComes() {
        A.says("==== 2: Q becomes 4 Q + k, if k is 0 or above, else 4 R + 4 + k");
        for (int k = -2; k <= 2; k++) {
            DigitDivider x = withRow(0, k);
            x.divide(MIN, 1);
            long q = 0;
            for (int j = 1; j <= 17; j++) {
                q = 4 * q + k;
                A.due("state(" + j + ", 2) by " + k, x.state(j, 2), q);
            }
        }
    }

    private static void lessIsQuotientLessOne() {
        A.says("==== 2: R is always Q less 1 .. R becomes 4 Q + k - 1, if k is above 0, else 4 R + 3 + k");
        for (int k = -2; k <= 2; k++) {
            DigitDivider x = withRow(0, k);
            x.divide(MIN, 1);
            for (int j = 0; j <= 17; j++) {
                A.due("state(" + j + ", 3) by " + k, x.state(j, 3), x.state(j, 2) - 1);
            }
        }
        // One of each: 1, 0, -2.
        DigitDivider x = new DigitDivider();
        x.divide(100, 7);
        long[] due = {-1, 0, 3, 13};
        for (int j = 0; j <= 3; j++) {
            A.due("state(" + j + ", 3) of 100, 7", x.state(j, 3), due[j]);
        }
    }

    private static void endBelowZero() {
        A.says("==== 2: If w is below 0: the quotient is R, the rest w + 8 d");
        DigitDivider x = new DigitDivider();
        divided(x, 3, 2, 1, 1, 1);
        A.due("Q of 3, 2", x.state(1, 2), 2);
        A.due("w of 3, 2", x.state(1, 0) + x.state(1, 1), -4L << 31);
        divided(x, 7, 3, 2, 2, 1);
        A.due("Q of 7, 3", x.state(2, 2), 3);
        A.due("w of 7, 3", x.state(2, 0) + x.state(2, 1), -8L << 31);
    }

    private static void endAtZero() {
        A.says("==== 2: else Q and w; the rest is divided by 8 2^t (cut)");
        DigitDivider x = new DigitDivider();
        divided(x, 5, 5, 1, 1, 0);
        A.due("Q of 5, 5", x.state(1, 2), 1);
        A.due("w of 5, 5", x.state(1, 0) + x.state(1, 1), 0);
        divided(x, 6, 3, 2, 2, 0);
        A.due("w of 6, 3", x.state(2, 0) + x.state(2, 1), 0);
        divided(x, 13, 9, 1, 1, 4);
        A.due("w of 13, 9", x.state(1, 0) + x.state(1, 1), 4L << 31);
    }

    private static void endGoesRound() {
        A.says("==== 2: w is SUM and CARRY (going round) at the end");
        DigitDivider x = withRow(0, 0);
        x.set(0, 0, -64, 1);
        // SUM comes to 2^62, its e to the least int: the digit 1 there takes 2^34 from it.
        divided(x, 1 << 28, 1, 15, 1, (1 << 28) - 1);
        A.due("state(15, 0)", x.state(15, 0), -(1L << 62) - (1L << 34));
        A.due("state(15, 1)", x.state(15, 1), Long.MIN_VALUE);
        // 2^65 - 2^34 is -2^34: below 0, so R and -2^34 + 8 2^31.
        x.set(0, 0, -64, 0);
        divided(x, MAX, 1, 16, -1, 0);
        // 2^65 is 0.
        divided(x, MIN, 1, 17, 0, 0);
    }

    private static void noDigits() {
        A.says("==== 2: With p less than m: no digits, quotient 0, rest p, n 0.");
        DigitDivider x = new DigitDivider();
        x.divide(1000, 3);
        for (int[] pair : new int[][] {{0, 5}, {3, 5}, {-3, 5}, {3, -5}, {MAX, MIN}, {-MAX, MIN}, {0, MIN}, {0, 1}}) {
            divided(x, pair[0], pair[1], 0, 0, pair[0]);
            A.due("left() without digits", x.left(), 0);
            for (int what = 0; what < 5; what++) {
                A.due("state(0, " + what + ") without digits", x.state(0, what), what == 3 ? -1 : 0);
                A.due("state(1, " + what + ") without digits", x.state(1, what), 0);
                A.due("step(1, " + what + ") without digits", x.step(1, what), -101);
            }
        }
    }

    private static void signs() {
        A.says("==== 2: Signs: the quotient is below 0 if just one of a and b is, the rest if a is");
        DigitDivider x = new DigitDivider();
        divided(x, 100, 7, 3, 14, 2);
        divided(x, -100, 7, 3, -14, -2);
        divided(x, 100, -7, 3, -14, 2);
        divided(x, -100, -7, 3, 14, -2);
        divided(x, -6, 3, 2, -2, 0);
        divided(x, MIN, 3, 16, -715827882, -2);
        divided(x, MIN, MIN, 1, 1, 0);
        // A rest below 0 by itself, as nearestColumn() has it for 100: with a below 0 it is above.
        x = withRow(12, 0);
        x.set(0, 12, 12, 2);
        x.set(0, 12, -64, -1);
        divided(x, 100, 7, 3, 30, -110);
        divided(x, -100, 7, 3, -30, 110);
        divided(x, 100, -7, 3, -30, -110);
        divided(x, -100, -7, 3, 30, 110);
        // The least a below 0: by a 0 all of it is the rest.
        x = withRow(0, 0);
        divided(x, -1, 1, 1, 0, -1);
        divided(x, 1, -1, 1, 0, 1);
    }

    private static void intsGoRound() {
        A.says("==== 2: both as ints (going round)");
        DigitDivider x = new DigitDivider();
        divided(x, MIN, -1, 17, MIN, 0);
        divided(x, MIN, 1, 17, MIN, 0);
        // -2 twice: Q is -10, and 2^31 + 10 (2^31 - 1), less for a below 0, is the rest: -11 2^31 + 10.
        x = withRow(15, -2);
        divided(x, MIN, MAX, 2, 10, MIN + 10);
        // -2 sixteen times: Q is -2863311530; w is -357913942 2^34 by going round, so R is the
        // quotient, 1431655765 - 2^32, and -357913942 + 1 the rest.
        x = withRow(0, -2);
        divided(x, 1 << 30, 1, 16, 1431655765, -357913941);
    }

    private static void leftAtItsEdge() {
        A.says("==== 2: LEFT, if behind it 3 times the size of SUM and CARRY (going round) is more than 16 d");
        DigitDivider x = withRow(8, 0);
        // d is 3 2^30, row 8. SUM is 2^32, then 2^34: three times it is just 16 d; then 2^36.
        divided(x, 8, 3, 2, 0, 8);
        A.due("state(1, 0) of 8, 3", x.state(1, 0), 1L << 34);
        A.due("left() of 8, 3", x.left(), 2);
        // MADE but for a 1 where four times SUM is 2^33, which leaves -2^34: the edge below 0.
        x.make(0);
        x.set(0, 8, 4, 1);
        x.divide(4, 3);
        A.due("SUM and CARRY of 4, 3", x.state(1, 0) + x.state(1, 1), -(1L << 34));
        A.due("left() of 4, 3", x.left(), 0);
        // A 2 there leaves -5 2^33, which is more.
        x.set(0, 8, 4, 2);
        x.divide(4, 3);
        A.due("left() of 4, 3 by a 2", x.left(), 1);
        // Just more than the edge: 2^34 is as much as before, but d is 2^30 (3 - 2^-20).
        x = withRow(7, 0);
        x.divide(1 << 23, (3 << 20) - 1);
        A.due("state(1, 0) just beyond", x.state(1, 0), 1L << 34);
        A.due("left() just beyond", x.left(), 1);
    }

    // Promise 10

    private static void use() {
        A.says("Promise 10: A TABLE is in use: which was.");
        DigitDivider x = new DigitDivider();
        A.due("use(3)", x.use(3), 0);
        A.due("use(1)", x.use(1), 3);
        A.due("use(1) again", x.use(1), 1);
        A.due("use(2)", x.use(2), 1);
        A.due("use(0)", x.use(0), 2);
    }

    private static void useRefused() {
        A.says("Promise 10: BAD.");
        DigitDivider x = new DigitDivider();
        x.use(1);
        for (int no : new int[] {-1, 4, MIN, MAX}) {
            A.due("use of no table " + no, x.use(no), -1);
        }
        A.due("use(1), which stayed", x.use(1), 1);
    }

    // Promise 11

    private static void divide() {
        A.says("Promise 11: a is DIVIDED by b .. : how many digits (n). (the language's answers, by what is MADE)");
        DigitDivider x = new DigitDivider();
        java.util.Random random = new java.util.Random(1);
        for (int round = 0; round < 200000; round++) {
            if (round % 128 == 0) {
                x = new DigitDivider();
            }
            int a = random.nextInt() >> random.nextInt(32);
            int b = random.nextInt() >> random.nextInt(32);
            if (b != 0) {
                int n = x.divide(a, b);
                A.due(a + " by " + b + ", told(3)", n, Math.abs((long) a) < Math.abs((long) b) ? 0 : digits(a, b));
                A.due(a + " by " + b + ", quotient()", x.quotient(), a / b);
                A.due(a + " by " + b + ", rest()", x.rest(), a % b);
                A.due(a + " by " + b + ", left()", x.left(), 0);
            }
        }
    }

    private static int digits(int a, int b) {
        int u = Integer.numberOfLeadingZeros(Math.abs(b)) - Integer.numberOfLeadingZeros(Math.abs(a));
        return (u + 1) / 2 + 1;
    }

    private static void divideByTheTableInUse() {
        A.says("Promise 11: by the TABLE in use");
        DigitDivider x = new DigitDivider();
        fillRow(x, 1, 8, 0);
        divided(x, 8, 3, 2, 2, 2);
        x.use(1);
        divided(x, 8, 3, 2, 0, 8);
        x.copy(2, 1);
        A.due("quotient() stays as a table changes", x.quotient(), 0);
        divided(x, 8, 3, 2, 2, 2);
        x.set(1, 8, 8, -1);
        x.use(3);
        divided(x, 8, 3, 2, 2, 2);
    }

    private static void divideRefused() {
        A.says("Promise 11: BAD: b is 0.");
        DigitDivider x = new DigitDivider();
        for (int a : new int[] {0, 1, -1, MIN, MAX}) {
            A.due("divide(" + a + ", 0)", x.divide(a, 0), -1);
        }
        A.due("told(3)", x.told(3), 0);
        A.due("state(0, 3) with nothing divided", x.state(0, 3), 0);
    }

    // Promises 12 and 13

    private static void quotientAndRestBefore() {
        A.says("Promises 12, 13: 0 before.");
        DigitDivider x = new DigitDivider();
        A.due("quotient()", x.quotient(), 0);
        A.due("rest()", x.rest(), 0);
        x.divide(100, 0);
        x.sweep(100, 3, 7);
        A.due("quotient() behind a refusal and a sweep", x.quotient(), 0);
        A.due("rest() behind a refusal and a sweep", x.rest(), 0);
    }

    private static void quotientAndRestOfTheLatest() {
        A.says("Promises 12, 13: The quotient, the rest of the latest divide() that was not BAD");
        DigitDivider x = new DigitDivider();
        x.divide(1000, 3);
        divided(x, 100, 7, 3, 14, 2);
        divided(x, 77, 0, -1, 14, 2);
        divided(x, 0, 0, -1, 14, 2);
        divided(x, 5, 9, 0, 0, 5);
        divided(x, MIN, 0, -1, 0, 5);
    }

    // Promise 14

    private static void left() {
        A.says("Promise 14: The first digit behind which it LEFT");
        // SUM is 2^31, then 2^33, then 2^35, which is more than 2^34; the third is not the first.
        DigitDivider x = withRow(8, 0);
        x.divide(16, 3);
        A.due("divide(16, 3), left()", x.left(), 2);
        // The last one alone: SUM is 2^32, then 2^34, then 2^36.
        x.divide(8, 3);
        A.due("divide(8, 3), left()", x.left(), 2);
        x.divide(0, 0);
        A.due("left() stays behind a refusal", x.left(), 2);
        x.sweep(1, 2, 3);
        A.due("left() stays behind a sweep", x.left(), 2);
        // d is 2^31: a 0 leaves 15 2^31 and more, which is beyond 16/3 of it.
        x = withRow(0, 0);
        x.divide(MAX, 1);
        A.due("divide(MAX, 1), left()", x.left(), 1);
        // 4 2^31, then 16 2^31; that it is 0 at last, by going round, mends nothing.
        x.divide(MIN, 1);
        A.due("divide(MIN, 1), left()", x.left(), 2);
    }

    private static void leftNone() {
        A.says("Promise 14: 0: none.");
        DigitDivider x = withRow(8, 0);
        x.divide(8, 3);
        A.due("left(), one", x.left(), 2);
        x.divide(1, 3);
        A.due("left() without digits", x.left(), 0);
        x.divide(8, 3);
        x.use(1);
        x.divide(8, 3);
        A.due("left() by a table that is MADE", x.left(), 0);
    }

    // Promise 15

    private static void step() {
        A.says("Promise 15: Of digit j (1 .. n) of the latest divide(): 0 the DIGIT, 1 e.");
        DigitDivider x = new DigitDivider();
        x.divide(1000000007, 3);
        x.divide(100, 7);
        int[] digits = {0, 1, 0, -2};
        int[] columns = {0, 12, -6, -24};
        for (int j = 1; j <= 3; j++) {
            A.due("step(" + j + ", 0)", x.step(j, 0), digits[j]);
            A.due("step(" + j + ", 1)", x.step(j, 1), columns[j]);
        }
        x.divide(MIN, 1);
        A.due("step(1, 1) of 17", x.step(1, 1), 4);
        A.due("step(17, 0) of 17", x.step(17, 0), 0);
        x.set(0, 0, 4, 2);
        x.use(1);
        A.due("step(1, 0) by a table that was changed since", x.step(1, 0), 1);
    }

    private static void stepRefused() {
        A.says("Promise 15: BAD less 100: -101.");
        DigitDivider x = new DigitDivider();
        A.due("step(1, 0) before", x.step(1, 0), -101);
        A.due("step(0, 1) before", x.step(0, 1), -101);
        x.divide(1000000007, 3);
        x.divide(13, 9);
        for (int no : new int[] {-1, 0, 2, 15, 17, 18, MIN, MAX}) {
            A.due("step(" + no + ", 0)", x.step(no, 0), -101);
            A.due("step(" + no + ", 1)", x.step(no, 1), -101);
        }
        for (int no : new int[] {-1, 2, 3, MIN, MAX}) {
            A.due("step(1, " + no + ")", x.step(1, no), -101);
        }
        x.divide(MIN, 1);
        A.due("step(18, 0) of 17", x.step(18, 0), -101);
        x.divide(1, 2);
        A.due("step(1, 0) without digits", x.step(1, 0), -101);
        A.due("step(0, 0) without digits", x.step(0, 0), -101);
    }

    // Promise 16

    private static void state() {
        A.says("Promise 16: Behind digit j (0 .. n): 0 SUM, 1 CARRY, 2 Q, 3 R.");
        DigitDivider x = new DigitDivider();
        x.divide(1000000007, 3);
        x.divide(13, 9);
        long[][] due = {{26L << 28, 0, 0, -1}, {-6L << 31, 10L << 31, 1, 0}};
        for (int j = 0; j < 2; j++) {
            for (int what = 0; what < 4; what++) {
                A.due("state(" + j + ", " + what + ")", x.state(j, what), due[j][what]);
            }
        }
        x.divide(MIN, 1);
        A.due("state(17, 2) of 17", x.state(17, 2), 1L << 31);
        A.due("state(17, 3) of 17", x.state(17, 3), (1L << 31) - 1);
    }

    private static void stateOfNoneSuch() {
        A.says("Promise 16: 0 of none such.");
        DigitDivider x = new DigitDivider();
        for (int what = -1; what < 5; what++) {
            A.due("state(0, " + what + ") before", x.state(0, what), 0);
            A.due("state(1, " + what + ") before", x.state(1, what), 0);
        }
        x.divide(1000000007, 3);
        x.divide(13, 9);
        for (int no : new int[] {-1, 2, 15, 17, 18, MIN, MAX}) {
            for (int what = 0; what < 4; what++) {
                A.due("state(" + no + ", " + what + ")", x.state(no, what), 0);
            }
        }
        for (int no : new int[] {-1, 4, 5, MIN, MAX}) {
            A.due("state(0, " + no + ")", x.state(0, no), 0);
            A.due("state(1, " + no + ")", x.state(1, no), 0);
        }
        x.divide(MIN, 1);
        A.due("state(18, 2) of 17", x.state(18, 2), 0);
    }

    // Promise 17

    private static void told() {
        A.says("Promise 17: Of the latest divide(): 0 i, 1 s, 2 t, 3 n, 4 how many digits were not 0.");
        DigitDivider x = new DigitDivider();
        x.divide(100, -7);
        toldAre(x, 12, 25, 29, 3, 2);
        x.divide(MAX, MAX);
        toldAre(x, 15, 1, 1, 1, 1);
        x.divide(MIN, 1);
        toldAre(x, 0, 0, 31, 17, 2);
        x.divide(1, 0);
        toldAre(x, 0, 0, 31, 17, 2);
        x = withRow(0, 0);
        x.divide(MIN, 1);
        toldAre(x, 0, 0, 31, 17, 0);
        x = withRow(0, -1);
        x.divide(MIN, 1);
        toldAre(x, 0, 0, 31, 17, 17);
    }

    private static void toldAre(DigitDivider x, int... due) {
        for (int what = 0; what < 5; what++) {
            A.due("told(" + what + ")", x.told(what), due[what]);
        }
    }

    private static void toldWithoutDigits() {
        A.says("Promise 17: (All 0 without digits, and before.)");
        DigitDivider x = new DigitDivider();
        toldAre(x, 0, 0, 0, 0, 0);
        x.sweep(100, 3, 7);
        toldAre(x, 0, 0, 0, 0, 0);
        x.divide(3, 5);
        toldAre(x, 0, 0, 0, 0, 0);
        x.divide(100, 7);
        x.divide(99, 100);
        toldAre(x, 0, 0, 0, 0, 0);
    }

    private static void toldRefused() {
        A.says("Promise 17: BAD.");
        DigitDivider x = new DigitDivider();
        for (int time = 0; time < 3; time++) {
            for (int no : new int[] {-1, 5, MIN, MAX}) {
                A.due("told(" + no + ")", x.told(no), -1);
            }
            x.divide(time == 0 ? 100 : 1, 7);
        }
    }

    // Promise 18

    private static void sweepRight() {
        A.says("Promise 18: how many quotients, or rests, are not those of the language. (none)");
        DigitDivider x = new DigitDivider();
        A.due("sweep(-150, 300, 7)", x.sweep(-150, 300, 7), 0);
        A.due("sweep(MIN, 1, -1)", x.sweep(MIN, 1, -1), 0);
        A.due("sweep(MIN, 300, 1)", x.sweep(MIN, 300, 1), 0);
        A.due("sweep(MIN, 300, MIN)", x.sweep(MIN, 300, MIN), 0);
        A.due("sweep(MAX, 1, MAX)", x.sweep(MAX, 1, MAX), 0);
    }

    private static void sweepSoMany() {
        A.says("Promise 18: All a from low on, so many (1 .. 300 ..)");
        DigitDivider x = withRow(0, 0);
        // By zeros alone all sizes from 2 on go wrong.
        A.due("sweep(2, 1, 2)", x.sweep(2, 1, 2), 1);
        A.due("sweep(1, 1, 2)", x.sweep(1, 1, 2), 0);
        A.due("sweep(1, 2, 2)", x.sweep(1, 2, 2), 1);
        A.due("sweep(-3, 7, 2)", x.sweep(-3, 7, 2), 4);
        A.due("sweep(-3, 5, 2)", x.sweep(-3, 5, 2), 2);
        A.due("sweep(2, 299, 2)", x.sweep(2, 299, 2), 299);
        A.due("sweep(2, 300, 2)", x.sweep(2, 300, 2), 300);
        A.due("sweep(-1, 300, 2)", x.sweep(-1, 300, 2), 297);
    }

    private static void sweepGoesRound() {
        A.says("Promise 18: (.. going round)");
        DigitDivider x = withRow(0, 0);
        // MAX - 1, MAX, MIN and MIN + 1, of which MIN alone is not less than 2^31.
        A.due("sweep(MAX - 1, 4, MIN)", x.sweep(MAX - 1, 4, MIN), 1);
        A.due("sweep(MAX, 1, MIN)", x.sweep(MAX, 1, MIN), 0);
        A.due("sweep(MAX, 2, MIN)", x.sweep(MAX, 2, MIN), 1);
        A.due("sweep(MAX, 300, 2)", x.sweep(MAX, 300, 2), 300);
        x.use(1);
        A.due("sweep(MAX - 100, 201, -3)", x.sweep(MAX - 100, 201, -3), 0);
        A.due("sweep(MAX, 300, -1)", x.sweep(MAX, 300, -1), 0);
    }

    private static void sweepWrong() {
        A.says("Promise 18: DIVIDED by b by the TABLE in use: how many quotients, or rests, are not those of the language.");
        DigitDivider x = new DigitDivider();
        fillRow(x, 2, 0, 0);
        A.due("sweep(-3, 7, 2) by table 0", x.sweep(-3, 7, 2), 0);
        x.use(2);
        A.due("sweep(-3, 7, 2) by table 2", x.sweep(-3, 7, 2), 4);
        // 2^31 by 1: the remainder has gone round to 0, so the rest is right, the quotient 0 not.
        A.due("sweep(MIN, 1, 1)", x.sweep(MIN, 1, 1), 1);
        divided(x, MIN, 1, 17, 0, 0);
    }

    private static void sweepRefused() {
        A.says("Promise 18: BAD: also b is 0.");
        DigitDivider x = new DigitDivider();
        for (int no : new int[] {0, -1, 301, MIN, MAX}) {
            A.due("sweep(0, " + no + ", 2)", x.sweep(0, no, 2), -1);
            A.due("sweep(0, " + no + ", 0)", x.sweep(0, no, 0), -1);
        }
        A.due("sweep(0, 1, 0)", x.sweep(0, 1, 0), -1);
        A.due("sweep(MIN, 300, 0)", x.sweep(MIN, 300, 0), -1);
    }

    private static void sweepLeavesTheLatest() {
        A.says("Promise 18: (The latest divide() stays that.)");
        DigitDivider x = new DigitDivider();
        x.sweep(100, 300, 3);
        toldAre(x, 0, 0, 0, 0, 0);
        A.due("quotient() after a sweep alone", x.quotient(), 0);
        A.due("rest() after a sweep alone", x.rest(), 0);
        A.due("state(0, 3) after a sweep alone", x.state(0, 3), 0);
        x.divide(100, 7);
        x.sweep(100000, 300, 3);
        toldAre(x, 12, 25, 29, 3, 2);
        A.due("quotient() after a sweep", x.quotient(), 14);
        A.due("rest() after a sweep", x.rest(), 2);
        A.due("left() after a sweep", x.left(), 0);
        A.due("step(1, 1) after a sweep", x.step(1, 1), 12);
        A.due("step(4, 1) after a sweep", x.step(4, 1), -101);
        A.due("state(2, 0) after a sweep", x.state(2, 0), -12884901888L);
        // One that LEFT stays so behind a sweep by another table, and the other way round.
        fillRow(x, 0, 8, 0);
        x.divide(8, 3);
        x.use(1);
        x.sweep(100, 300, 3);
        A.due("left() after a sweep by another table", x.left(), 2);
        x.divide(8, 3);
        x.use(0);
        x.sweep(100, 300, 3);
        A.due("left() after a sweep that LEFT", x.left(), 0);
        A.due("use(1) after a sweep", x.use(1), 0);
    }
}

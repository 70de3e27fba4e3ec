/** Promises 10 to 18: dividing, and what is told of it. All answers were worked out by hand. */
public final class DividingTest {
    private static final int MIN = Integer.MIN_VALUE, MAX = Integer.MAX_VALUE;
    private static final Answers A = new Answers();

    public static void main(String[] args) {
        use();
        divideAndSigns();
        theLanguagesAnswers();
        noDigits();
        byZero();
        leftAtItsEdge();
        nearestColumn();
        estimateGoesRound();
        stepAndState();
        told();
        sweep();
        sweepLeavesTheLatest();
        A.end();
    }

    private static void fillRow(DigitDivider x, int table, int row, int digit) {
        for (int e = -64; e < 64; e++) {
            x.set(table, row, e, digit);
        }
    }

    // Promise 10
    private static void use() {
        DigitDivider x = new DigitDivider();
        A.due("use(3)", x.use(3), 0);
        A.due("use(1)", x.use(1), 3);
        for (int no : new int[] {-1, 4, MIN, MAX}) {
            A.due("use of no table " + no, x.use(no), -1);
        }
        A.due("use(1) again", x.use(1), 1);
        fillRow(x, 1, 8, 0);
        x.divide(8, 3);
        A.due("quotient() by the spoiled table", x.quotient(), 0);
        A.due("use(0)", x.use(0), 1);
        A.due("quotient() stays", x.quotient(), 0);
        x.divide(8, 3);
        A.due("quotient() by table 0", x.quotient(), 2);
    }

    private static void divided(DigitDivider x, int a, int b, int n, int quotient, int rest) {
        String call = "divide(" + a + ", " + b + ")";
        A.due(call, x.divide(a, b), n);
        A.due(call + ", quotient()", x.quotient(), quotient);
        A.due(call + ", rest()", x.rest(), rest);
        A.due(call + ", left()", x.left(), 0);
    }

    // Promises 11 to 13
    private static void divideAndSigns() {
        DigitDivider x = new DigitDivider();
        divided(x, 100, 7, 3, 14, 2);
        divided(x, -100, 7, 3, -14, -2);
        divided(x, 100, -7, 3, -14, 2);
        divided(x, -100, -7, 3, 14, -2);
        divided(x, 13, 9, 1, 1, 4);
        divided(x, 5, 5, 1, 1, 0);
        divided(x, 1, 1, 1, 1, 0);
        divided(x, MAX, 1, 16, MAX, 0);
        divided(x, MIN, 1, 17, MIN, 0);
        divided(x, MIN, -1, 17, MIN, 0);
        divided(x, MIN, MIN, 1, 1, 0);
        divided(x, MAX, MAX, 1, 1, 0);
        divided(x, MIN, MAX, 2, -1, -1);
        divided(x, MIN, 3, 16, -715827882, -2);
        divided(x, 2147483647, 5, 15, 429496729, 2);
    }

    private static void theLanguagesAnswers() {
        DigitDivider x = new DigitDivider();
        java.util.Random random = new java.util.Random(1);
        for (int round = 0; round < 200000; round++) {
            int a = random.nextInt() >> random.nextInt(32);
            int b = random.nextInt() >> random.nextInt(32);
            if (b != 0) {
                x.divide(a, b);
                A.due(a + " by " + b + ", quotient()", x.quotient(), a / b);
                A.due(a + " by " + b + ", rest()", x.rest(), a % b);
                A.due(a + " by " + b + ", left()", x.left(), 0);
            }
        }
    }

    private static void noDigits() {
        DigitDivider x = new DigitDivider();
        x.divide(1000, 3);
        for (int[] pair : new int[][] {{0, 5}, {3, 5}, {-3, 5}, {MAX, MIN}, {-MAX, MIN}}) {
            divided(x, pair[0], pair[1], 0, 0, pair[0]);
            for (int what = 0; what < 5; what++) {
                A.due("told(" + what + ") without digits", x.told(what), 0);
                A.due("state(0, " + what + ") without digits", x.state(0, what), what == 3 ? -1 : 0);
                A.due("state(1, " + what + ") without digits", x.state(1, what), 0);
                A.due("step(1, " + what + ") without digits", x.step(1, what), -101);
            }
        }
    }

    private static void byZero() {
        DigitDivider x = new DigitDivider();
        A.due("divide(7, 0) at first", x.divide(7, 0), -1);
        A.due("state(0, 3) with nothing divided", x.state(0, 3), 0);
        x.divide(100, 7);
        A.due("divide(1, 0)", x.divide(1, 0), -1);
        A.due("divide(0, 0)", x.divide(0, 0), -1);
        A.due("divide(MIN, 0)", x.divide(MIN, 0), -1);
        A.due("quotient() stays", x.quotient(), 14);
        A.due("rest() stays", x.rest(), 2);
        A.due("told(3) stays", x.told(3), 3);
        A.due("step(1, 1) stays", x.step(1, 1), 12);
        A.due("state(1, 2) stays", x.state(1, 2), 1);
    }

    // Promise 14
    private static void leftAtItsEdge() {
        DigitDivider x = new DigitDivider();
        fillRow(x, 0, 8, 0);
        // d is 3 2^30, row 8. SUM is 2^32, then 2^34: three times it is just 16 d; then 2^36.
        A.due("divide(8, 3)", x.divide(8, 3), 2);
        A.due("left() of 8, 3", x.left(), 2);
        A.due("quotient() of 8, 3", x.quotient(), 0);
        A.due("rest() of 8, 3", x.rest(), 8);
        // SUM is 2^31, then 2^33, then 2^35, which is more; the third is not the first.
        A.due("divide(16, 3)", x.divide(16, 3), 3);
        A.due("left() of 16, 3", x.left(), 2);
        // MADE but for a 1 where four times SUM is 2^33, which leaves -2^34: the edge below 0.
        x.make(0);
        x.set(0, 8, 4, 1);
        A.due("divide(4, 3)", x.divide(4, 3), 2);
        A.due("step(1, 0) of 4, 3", x.step(1, 0), 1);
        A.due("state(1, 0) and (1, 1) of 4, 3", x.state(1, 0) + x.state(1, 1), -(1L << 34));
        A.due("left() of 4, 3", x.left(), 0);
        // A 2 there leaves -5 2^33, which is more.
        x.set(0, 8, 4, 2);
        x.divide(4, 3);
        A.due("left() of 4, 3 by a 2", x.left(), 1);
        x.divide(0, 0);
        A.due("left() stays", x.left(), 1);
        x.divide(1, 3);
        A.due("left() without digits", x.left(), 0);
    }

    private static void nearestColumn() {
        DigitDivider x = new DigitDivider();
        fillRow(x, 0, 12, 0);
        x.set(0, 12, 63, 2);
        // 100 by 7: SUM is 12.5 2^31, then 50 2^31, then 200 2^31, where the last column stands in.
        A.due("divide(100, 7)", x.divide(100, 7), 3);
        A.due("step(2, 1)", x.step(2, 1), 50);
        A.due("step(2, 0)", x.step(2, 0), 0);
        A.due("step(3, 1)", x.step(3, 1), 200);
        A.due("step(3, 0)", x.step(3, 0), 2);
        A.due("left()", x.left(), 1);
        A.due("told(4)", x.told(4), 1);
        A.due("quotient()", x.quotient(), 2);
        A.due("rest()", x.rest(), 86);
        // By 2 and then 0 it is (12.5 - 28) 2^31, then -62 2^31, then -248 2^31.
        x.set(0, 12, 12, 2);
        x.set(0, 12, -64, -1);
        A.due("divide(100, 7) downwards", x.divide(100, 7), 3);
        A.due("step(1, 0) downwards", x.step(1, 0), 2);
        A.due("step(3, 1) downwards", x.step(3, 1), -248);
        A.due("step(3, 0) downwards", x.step(3, 0), -1);
        // Q is ((0 4 + 2) 4 + 0) 4 - 1 = 31, w below 0: 30, and 100 - 7 30 is the rest.
        A.due("state(3, 2) downwards", x.state(3, 2), 31);
        A.due("quotient() downwards", x.quotient(), 30);
        A.due("rest() downwards", x.rest(), -110);
    }

    private static void estimateGoesRound() {
        DigitDivider x = new DigitDivider();
        fillRow(x, 0, 0, 0);
        x.set(0, 0, 0, 1);
        // SUM is 2^31 at first and four times as much each time: 2^61, and 2^63, whose e is -2^32.
        A.due("divide(MIN, 1)", x.divide(MIN, 1), 17);
        A.due("step(15, 1)", x.step(15, 1), 1 << 30);
        A.due("state(15, 0)", x.state(15, 0), 1L << 61);
        A.due("step(16, 1)", x.step(16, 1), 0);
        A.due("step(16, 0)", x.step(16, 0), 1);
        A.due("left()", x.left(), 2);
    }

    // Promises 15 and 16
    private static void stepAndState() {
        DigitDivider x = new DigitDivider();
        x.divide(1000000007, 3);
        x.divide(13, 9);
        A.due("step(1, 0)", x.step(1, 0), 1);
        A.due("step(1, 1)", x.step(1, 1), 13);
        // p 2^s is 13 2^28, d is 9 2^28; half the bits of -9 2^31 and 13 2^31 are carries.
        long[][] due = {{26L << 28, 0, 0, -1}, {-6L << 31, 10L << 31, 1, 0}};
        for (int j = 0; j < 2; j++) {
            for (int what = 0; what < 4; what++) {
                A.due("state(" + j + ", " + what + ")", x.state(j, what), due[j][what]);
            }
        }
        for (int no : new int[] {-1, 0, 2, 17, 18, MIN, MAX}) {
            A.due("step(" + no + ", 0)", x.step(no, 0), -101);
            A.due("step(" + no + ", 1)", x.step(no, 1), -101);
        }
        for (int no : new int[] {-1, 2, 17, 18, MIN, MAX}) {
            A.due("state(" + no + ", 0)", x.state(no, 0), 0);
            A.due("state(" + no + ", 3)", x.state(no, 3), 0);
        }
        for (int no : new int[] {-1, 2, MIN, MAX}) {
            A.due("step(1, " + no + ")", x.step(1, no), -101);
        }
        for (int no : new int[] {-1, 4, MIN, MAX}) {
            A.due("state(1, " + no + ")", x.state(1, no), 0);
        }
        x.divide(MIN, 1);
        A.due("step(17, 0) of 17", x.step(17, 0), 0);
        A.due("state(17, 2) of 17", x.state(17, 2), 1L << 31);
        A.due("state(17, 3) of 17", x.state(17, 3), (1L << 31) - 1);
        A.due("state(18, 2) of 17", x.state(18, 2), 0);
        A.due("step(1, 1) of 17", x.step(1, 1), 4);
        x.set(0, 0, 4, 2);
        x.use(1);
        A.due("step(1, 0) by a table that was changed since", x.step(1, 0), 1);
    }

    // Promise 17
    private static void told() {
        DigitDivider x = new DigitDivider();
        x.divide(100, -7);
        int[] due = {12, 25, 29, 3, 2};
        for (int what = 0; what < 5; what++) {
            A.due("told(" + what + ")", x.told(what), due[what]);
        }
        x.divide(MIN, 1);
        due = new int[] {0, 0, 31, 17};
        for (int what = 0; what < 4; what++) {
            A.due("told(" + what + ") of MIN, 1", x.told(what), due[what]);
        }
        x.divide(MAX, MAX);
        due = new int[] {15, 1, 1, 1, 1};
        for (int what = 0; what < 5; what++) {
            A.due("told(" + what + ") of MAX, MAX", x.told(what), due[what]);
        }
        for (int no : new int[] {-1, 5, MIN, MAX}) {
            A.due("told(" + no + ")", x.told(no), -1);
        }
    }

    // Promise 18
    private static void sweep() {
        DigitDivider x = new DigitDivider();
        A.due("sweep(-150, 300, 7)", x.sweep(-150, 300, 7), 0);
        A.due("sweep(MAX - 100, 201, -3)", x.sweep(MAX - 100, 201, -3), 0);
        A.due("sweep(MIN, 1, -1)", x.sweep(MIN, 1, -1), 0);
        fillRow(x, 2, 0, 0);
        A.due("sweep(-3, 7, 2) by table 0", x.sweep(-3, 7, 2), 0);
        x.use(2);
        // By zeros alone all sizes from 2 on go wrong: -3, -2, 2, 3.
        A.due("sweep(-3, 7, 2)", x.sweep(-3, 7, 2), 4);
        A.due("sweep(-3, 5, 2)", x.sweep(-3, 5, 2), 2);
        A.due("sweep(2, 1, 2)", x.sweep(2, 1, 2), 1);
        A.due("sweep(2, 300, 2)", x.sweep(2, 300, 2), 300);
        // 2^31 by 1: the remainder has gone round to 0, so the rest is right, the quotient 0 not.
        A.due("sweep(MIN, 1, 1)", x.sweep(MIN, 1, 1), 1);
        x.divide(MIN, 1);
        A.due("rest() of MIN, 1", x.rest(), 0);
        // Going round: MAX - 1, MAX, MIN and MIN + 1, of which MIN alone is not less than 2^31.
        A.due("sweep(MAX - 1, 4, MIN)", x.sweep(MAX - 1, 4, MIN), 1);
        for (int no : new int[] {0, -1, 301, MIN, MAX}) {
            A.due("sweep(0, " + no + ", 2)", x.sweep(0, no, 2), -1);
        }
        A.due("sweep(0, 1, 0)", x.sweep(0, 1, 0), -1);
        A.due("sweep(0, 300, 0)", x.sweep(0, 300, 0), -1);
    }

    private static void sweepLeavesTheLatest() {
        DigitDivider x = new DigitDivider();
        x.sweep(100, 300, 3);
        A.due("told(3) after a sweep alone", x.told(3), 0);
        A.due("quotient() after a sweep alone", x.quotient(), 0);
        A.due("state(0, 3) after a sweep alone", x.state(0, 3), 0);
        x.divide(100, 7);
        x.sweep(100000, 300, 3);
        A.due("quotient() after a sweep", x.quotient(), 14);
        A.due("rest() after a sweep", x.rest(), 2);
        A.due("told(2) after a sweep", x.told(2), 29);
        A.due("step(1, 1) after a sweep", x.step(1, 1), 12);
        A.due("state(2, 0) after a sweep", x.state(2, 0), -12884901888L);
    }
}

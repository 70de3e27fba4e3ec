/** Promises 1 to 9: a new object, and what is done with its tables. */
public final class TablesTest {
    private static final int MIN = Integer.MIN_VALUE, MAX = Integer.MAX_VALUE;
    private static final int[] NO_TABLE = {-1, 4, MIN, MAX};
    private static final int[] NO_ROW = {-1, 16, MIN, MAX};
    private static final int[] NO_COLUMN = {-65, 64, MIN, MAX};
    private static final int[] NO_DIGIT = {-3, 3, MIN, MAX};
    private static final Answers A = new Answers();

    public static void main(String[] args) {
        newObject();
        digit();
        set();
        make();
        copy();
        goodAndHoldsByHand();
        goodAndHoldsEverywhere();
        check();
        wrong();
        refusalsChangeNothing();
        A.end();
    }

    // Promise 1
    private static void newObject() {
        DigitDivider x = new DigitDivider();
        for (int table = 0; table < 4; table++) {
            A.due("new check(" + table + ")", x.check(table), 0);
            A.due("new make(" + table + ")", x.make(table), 0);
            for (int i = 0; i < 16; i++) {
                for (int e = -64; e < 64; e++) {
                    A.due("new digit(" + table + ", " + i + ", " + e + ")", x.digit(table, i, e), Model.made(i, e));
                }
            }
        }
        A.due("new use(3)", x.use(3), 0);
        A.due("new quotient()", x.quotient(), 0);
        A.due("new rest()", x.rest(), 0);
        A.due("new left()", x.left(), 0);
        for (int what = 0; what < 5; what++) {
            A.due("new told(" + what + ")", x.told(what), 0);
            A.due("new state(0, " + what + ")", x.state(0, what), 0);
            A.due("new step(1, " + what + ")", x.step(1, what), -101);
        }
    }

    // Promise 2
    private static void digit() {
        DigitDivider x = new DigitDivider();
        A.due("digit(0, 0, 11)", x.digit(0, 0, 11), 1);
        A.due("digit(0, 0, 12)", x.digit(0, 0, 12), 2);
        A.due("digit(3, 0, -13)", x.digit(3, 0, -13), -1);
        A.due("digit(3, 0, -14)", x.digit(3, 0, -14), -2);
        A.due("digit(3, 15, 63)", x.digit(3, 15, 63), 0);
        A.due("digit(0, 0, -64)", x.digit(0, 0, -64), 0);
        for (int no : NO_TABLE) {
            A.due("digit of no table " + no, x.digit(no, 0, 0), -101);
        }
        for (int no : NO_ROW) {
            A.due("digit of no row " + no, x.digit(0, no, 0), -101);
        }
        for (int no : NO_COLUMN) {
            A.due("digit of no column " + no, x.digit(0, 0, no), -101);
            A.due("digit of the last row and no column " + no, x.digit(0, 15, no), -101);
        }
    }

    // Promise 3
    private static void set() {
        DigitDivider x = new DigitDivider();
        A.due("set(1, 0, 12, -2)", x.set(1, 0, 12, -2), 2);
        A.due("set(1, 0, 12, 1)", x.set(1, 0, 12, 1), -2);
        A.due("digit(1, 0, 12) as set", x.digit(1, 0, 12), 1);
        A.due("digit(0, 0, 12) not set", x.digit(0, 0, 12), 2);
        A.due("digit(1, 1, 12) not set", x.digit(1, 1, 12), 1);
        A.due("digit(1, 0, 13) not set", x.digit(1, 0, 13), 2);
        A.due("set(3, 15, 63, 2)", x.set(3, 15, 63, 2), 0);
        A.due("set(3, 15, 63, 0)", x.set(3, 15, 63, 0), 2);
        A.due("set(0, 0, -64, -1)", x.set(0, 0, -64, -1), 0);
        A.due("digit(0, 0, -64) as set", x.digit(0, 0, -64), -1);
    }

    // Promise 4
    private static void make() {
        DigitDivider x = new DigitDivider();
        x.set(2, 0, 12, 1);
        x.set(2, 15, 63, 1);
        x.set(2, 0, -64, 1);
        x.set(1, 3, 3, 2);
        A.due("make(2)", x.make(2), 3);
        A.due("make(2) again", x.make(2), 0);
        A.due("digit(2, 0, 12) made", x.digit(2, 0, 12), 2);
        A.due("digit(2, 15, 63) made", x.digit(2, 15, 63), 0);
        A.due("make(1)", x.make(1), 1);
        for (int no : NO_TABLE) {
            A.due("make of no table " + no, x.make(no), -1);
        }
    }

    // Promise 5
    private static void copy() {
        DigitDivider x = new DigitDivider();
        x.set(0, 0, 12, 1);
        x.set(0, 15, 63, -2);
        x.set(3, 15, 63, -2);
        x.set(3, 7, 7, -2);
        A.due("copy(0, 3)", x.copy(0, 3), 2);
        A.due("copy(0, 3) again", x.copy(0, 3), 0);
        A.due("copy(0, 0)", x.copy(0, 0), 0);
        A.due("digit(3, 0, 12) copied", x.digit(3, 0, 12), 1);
        A.due("digit(3, 7, 7) copied", x.digit(3, 7, 7), Model.made(7, 7));
        x.set(3, 0, 12, -1);
        A.due("digit(0, 0, 12) is its own", x.digit(0, 0, 12), 1);
        x.set(0, 0, -64, 2);
        A.due("copy(1, 0)", x.copy(1, 0), 3);
        A.due("make(0) after a made one was copied", x.make(0), 0);
        for (int no : NO_TABLE) {
            A.due("copy of no table " + no, x.copy(no, 0), -1);
            A.due("copy to no table " + no, x.copy(0, no), -1);
        }
    }

    // Promises 6 and 7, with cells that were worked out by hand.
    private static void goodAndHoldsByHand() {
        DigitDivider x = new DigitDivider();
        // 8/3 of 17/32 is 136/96, so v = 22/16 = 132/96 is held and 23/16 = 138/96 not.
        A.due("holds(0, 22)", x.holds(0, 22), 1);
        A.due("holds(0, 23)", x.holds(0, 23), 0);
        A.due("holds(0, -24)", x.holds(0, -24), 1);
        A.due("holds(0, -25)", x.holds(0, -25), 0);
        // 8/3 of 18/32 is 24/16, but 18/32 is not of row 1, so column 24 has nothing;
        // nor has column -26, which reaches up to -24/16.
        A.due("holds(1, 23)", x.holds(1, 23), 1);
        A.due("holds(1, 24)", x.holds(1, 24), 0);
        A.due("holds(1, -25)", x.holds(1, -25), 1);
        A.due("holds(1, -26)", x.holds(1, -26), 0);
        A.due("holds(2, 24)", x.holds(2, 24), 1);
        A.due("holds(2, -26)", x.holds(2, -26), 1);
        A.due("holds(15, 42)", x.holds(15, 42), 1);
        A.due("holds(15, 43)", x.holds(15, 43), 0);
        // 2/3 of 1/2 is 16/48, and column 3 ends at 5/16 = 15/48, column 4 at 18/48.
        A.due("good(0, 3, 0)", x.good(0, 3, 0), 1);
        A.due("good(0, 4, 0)", x.good(0, 4, 0), 0);
        // The edge itself is good: 1/3 of 18/32 is 3/16, where column 3 begins; 2/3 of it is 6/16,
        // where column 4 ends.
        A.due("good(1, 3, 1)", x.good(1, 3, 1), 1);
        A.due("good(1, 2, 1)", x.good(1, 2, 1), 0);
        A.due("good(2, 4, 0)", x.good(2, 4, 0), 1);
        A.due("good(2, -6, 0)", x.good(2, -6, 0), 1);
        A.due("good(2, -7, 0)", x.good(2, -7, 0), 0);
        // Where nothing is held each digit is good.
        for (int k = -2; k <= 2; k++) {
            A.due("good(1, 24, " + k + ")", x.good(1, 24, k), 1);
            A.due("good(15, -64, " + k + ")", x.good(15, -64, k), 1);
            A.due("good(1, 23, " + k + ")", x.good(1, 23, k), k == 2 ? 1 : 0);
        }
        for (int no : NO_ROW) {
            A.due("good of no row " + no, x.good(no, 0, 0), -1);
            A.due("holds of no row " + no, x.holds(no, 0), -1);
        }
        for (int no : NO_COLUMN) {
            A.due("good of no column " + no, x.good(0, no, 0), -1);
            A.due("holds of no column " + no, x.holds(0, no), -1);
        }
        for (int no : NO_DIGIT) {
            A.due("good of no digit " + no, x.good(0, 0, no), -1);
        }
    }

    private static void goodAndHoldsEverywhere() {
        DigitDivider x = new DigitDivider();
        for (int i = 0; i < 16; i++) {
            for (int e = -64; e < 64; e++) {
                A.due("holds(" + i + ", " + e + ")", x.holds(i, e), Model.holds(i, e) ? 1 : 0);
                for (int k = -2; k <= 2; k++) {
                    A.due("good(" + i + ", " + e + ", " + k + ")", x.good(i, e, k), Model.good(i, e, k) ? 1 : 0);
                }
            }
        }
    }

    // Promise 8
    private static void check() {
        DigitDivider x = new DigitDivider();
        x.set(1, 0, 12, 1);
        x.set(1, 15, 42, 0);
        A.due("check(1)", x.check(1), 2);
        x.set(1, 15, 63, -2);
        A.due("check(1) with a digit where nothing is held", x.check(1), 2);
        x.set(1, 0, 3, 1);
        A.due("check(1) with another good digit", x.check(1), 2);
        A.due("check(0)", x.check(0), 0);
        for (int i = 0; i < 16; i++) {
            for (int e = -64; e < 64; e++) {
                x.set(2, i, e, -1);
            }
        }
        Model model = new Model();
        for (int[] row : model.tables[2]) {
            java.util.Arrays.fill(row, -1);
        }
        A.due("check(2) all -1", x.check(2), model.check(2));
        for (int no : NO_TABLE) {
            A.due("check of no table " + no, x.check(no), -1);
        }
    }

    // Promise 9
    private static void wrong() {
        DigitDivider x = new DigitDivider();
        A.due("wrong(1, 0) of a made table", x.wrong(1, 0), -2);
        x.set(1, 15, 42, 0);
        x.set(1, 0, 12, 1);
        x.set(1, 0, -14, 0);
        x.set(1, 7, 0, 2);
        x.set(1, 3, -60, 2);
        A.due("wrong(1, 0)", x.wrong(1, 0), 50);
        A.due("wrong(1, 1)", x.wrong(1, 1), 76);
        A.due("wrong(1, 2)", x.wrong(1, 2), 7 * 128 + 64);
        A.due("wrong(1, 3)", x.wrong(1, 3), 15 * 128 + 106);
        A.due("wrong(1, 4)", x.wrong(1, 4), -2);
        A.due("wrong(1, MAX)", x.wrong(1, MAX), -2);
        A.due("wrong(1, -1)", x.wrong(1, -1), -1);
        A.due("wrong(1, MIN)", x.wrong(1, MIN), -1);
        A.due("wrong(0, 0)", x.wrong(0, 0), -2);
        for (int no : NO_TABLE) {
            A.due("wrong of no table " + no, x.wrong(no, 0), -1);
        }
    }

    private static void refusalsChangeNothing() {
        DigitDivider x = new DigitDivider();
        for (int no : NO_TABLE) {
            A.due("set of no table " + no, x.set(no, 0, 0, 1), -101);
        }
        for (int no : NO_ROW) {
            A.due("set of no row " + no, x.set(0, no, 0, 1), -101);
        }
        for (int no : NO_COLUMN) {
            A.due("set of no column " + no, x.set(0, 1, no, 1), -101);
        }
        for (int no : NO_DIGIT) {
            A.due("set of no digit " + no, x.set(0, 0, 0, no), -101);
        }
        for (int table = 0; table < 4; table++) {
            A.due("make(" + table + ") after refusals", x.make(table), 0);
        }
    }
}

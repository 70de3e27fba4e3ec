/** '==== 1' and promises 1 to 9, sentence by sentence: a new object, and what is done with its tables. */
public final class TablesTest {
    private static final int MIN = Integer.MIN_VALUE, MAX = Integer.MAX_VALUE;
    private static final int[] NO_TABLE = {-1, 4, MIN, MAX};
    private static final int[] NO_ROW = {-1, 16, MIN, MAX};
    private static final int[] NO_COLUMN = {-65, 64, MIN, MAX};
    private static final int[] NO_DIGIT = {-3, 3, MIN, MAX};
    // Of each row the last column that holds a pair: the last e / 16 below 8/3 of (17 + i) / 32.
    private static final int[] LAST_HELD = {22, 23, 25, 26, 27, 29, 30, 31, 33, 34, 35, 37, 38, 39, 41, 42};
    private static final Answers A = new Answers();

    public static void main(String[] args) {
        rowsAndColumns();
        digitsOfACell();
        heldBelowTheRowsEnd();
        heldWithin();
        goodAtItsEdges();
        goodWithinAlone();
        goodWhereNoneIsHeld();
        goodAndHeldEverywhere();
        madeNearestToZero();
        madeAboveZero();
        madeWhereNoneIsGood();
        fourTables();
        newObject();
        digit();
        digitRefused();
        set();
        setRefused();
        make();
        makeRefused();
        copy();
        copyOntoItself();
        copyRefused();
        good();
        goodRefused();
        holds();
        holdsRefused();
        check();
        checkWhereNoneIsHeld();
        checkRefused();
        wrong();
        wrongRefused();
        wrongNotSoMany();
        A.end();
    }

    // ==== 1

    private static void rowsAndColumns() {
        A.says("==== 1: A TABLE has ROWS 0 .. 15, COLUMNS -64 .. 63");
        DigitDivider x = new DigitDivider();
        int[][] corners = {{0, -64}, {0, 63}, {1, -64}, {14, 63}, {15, -64}, {15, 63}};
        int[] digits = {1, 2, -1, -2, 2, -1};
        for (int c = 0; c < corners.length; c++) {
            A.due("set at corner " + c, x.set(0, corners[c][0], corners[c][1], digits[c]), 0);
        }
        for (int c = 0; c < corners.length; c++) {
            A.due("digit at corner " + c, x.digit(0, corners[c][0], corners[c][1]), digits[c]);
        }
        A.due("digit(0, -1, 63)", x.digit(0, -1, 63), -101);
        A.due("digit(0, 16, -64)", x.digit(0, 16, -64), -101);
        A.due("digit(0, 0, 64)", x.digit(0, 0, 64), -101);
        A.due("digit(0, 1, -65)", x.digit(0, 1, -65), -101);
        A.due("make(0)", x.make(0), corners.length);
    }

    private static void digitsOfACell() {
        A.says("==== 1: each cell a DIGIT -2 .. 2");
        DigitDivider x = new DigitDivider();
        int before = 0;
        for (int k = -2; k <= 2; k++) {
            A.due("set(2, 9, 63, " + k + ")", x.set(2, 9, 63, k), before);
            A.due("digit(2, 9, 63)", x.digit(2, 9, 63), k);
            before = k;
        }
        A.due("set(2, 9, 63, 3)", x.set(2, 9, 63, 3), -101);
        A.due("set(2, 9, 63, -3)", x.set(2, 9, 63, -3), -101);
        A.due("digit(2, 9, 63) as before", x.digit(2, 9, 63), 2);
    }

    private static void heldBelowTheRowsEnd() {
        A.says("==== 1: d < (17 + i) / 32, .. v < (e + 2) / 16");
        DigitDivider x = new DigitDivider();
        // There 8/3 of (17 + i) / 32 is just e / 16, or -(e + 2) / 16 for the columns below 0.
        int[][] touched = {{1, 24}, {4, 28}, {7, 32}, {10, 36}, {13, 40}};
        for (int[] cell : touched) {
            A.due("holds(" + cell[0] + ", " + cell[1] + ")", x.holds(cell[0], cell[1]), 0);
            A.due("holds(" + cell[0] + ", " + (-cell[1] - 2) + ")", x.holds(cell[0], -cell[1] - 2), 0);
        }
    }

    private static void heldWithin() {
        A.says("==== 1: that are WITHIN: v is - 8 d / 3 .. 8 d / 3");
        DigitDivider x = new DigitDivider();
        for (int i = 0; i < 16; i++) {
            int last = LAST_HELD[i];
            int first = -last - 2;
            A.due("holds(" + i + ", " + last + ")", x.holds(i, last), 1);
            A.due("holds(" + i + ", " + (last + 1) + ")", x.holds(i, last + 1), 0);
            A.due("holds(" + i + ", " + first + ")", x.holds(i, first), 1);
            A.due("holds(" + i + ", " + (first - 1) + ")", x.holds(i, first - 1), 0);
            A.due("holds(" + i + ", 63)", x.holds(i, 63), 0);
            A.due("holds(" + i + ", -64)", x.holds(i, -64), 0);
            A.due("holds(" + i + ", -1)", x.holds(i, -1), 1);
        }
    }

    private static void goodAtItsEdges() {
        A.says("==== 1: A DIGIT k is GOOD there, if for all that it HOLDS v - k d is - 2 d / 3 .. 2 d / 3");
        DigitDivider x = new DigitDivider();
        // Row 2 begins at d = 18/32, where 2/3 of d is 6/16 and 5/3 of it 15/16: below 0 the cell's
        // own pair (18/32, e / 16) lies on the edge, above 0 what its v come near.
        edge(x, 2, -6, 0, -7);
        edge(x, 2, -15, -1, -16);
        edge(x, 2, 4, 0, 5);
        edge(x, 2, 13, 1, 14);
        // Row 1 comes near d = 18/32, where 1/3 of d is 3/16 and 4/3 of it 12/16.
        edge(x, 1, 3, 1, 2);
        edge(x, 1, 12, 2, 11);
        edge(x, 1, -5, -1, -4);
        edge(x, 1, -14, -2, -13);
    }

    private static void edge(DigitDivider x, int row, int column, int digit, int nextColumn) {
        A.due("good(" + row + ", " + column + ", " + digit + ")", x.good(row, column, digit), 1);
        A.due("good(" + row + ", " + nextColumn + ", " + digit + ")", x.good(row, nextColumn, digit), 0);
    }

    private static void goodWithinAlone() {
        A.says("==== 1: GOOD for all that it HOLDS (and v beyond what is WITHIN it does not)");
        DigitDivider x = new DigitDivider();
        for (int i = 0; i < 16; i++) {
            int last = LAST_HELD[i];
            int first = -last - 2;
            for (int k = -2; k <= 2; k++) {
                A.due("good(" + i + ", " + last + ", " + k + ")", x.good(i, last, k), k == 2 ? 1 : 0);
                A.due("good(" + i + ", " + first + ", " + k + ")", x.good(i, first, k), k == -2 ? 1 : 0);
            }
        }
    }

    private static void goodWhereNoneIsHeld() {
        A.says("==== 1: (so where it HOLDS none each is)");
        DigitDivider x = new DigitDivider();
        for (int k = -2; k <= 2; k++) {
            for (int i = 0; i < 16; i++) {
                int beyond = LAST_HELD[i] + 1;
                A.due("good(" + i + ", " + beyond + ", " + k + ")", x.good(i, beyond, k), 1);
                A.due("good(" + i + ", " + (-beyond - 2) + ", " + k + ")", x.good(i, -beyond - 2, k), 1);
                A.due("good(" + i + ", 63, " + k + ")", x.good(i, 63, k), 1);
                A.due("good(" + i + ", -64, " + k + ")", x.good(i, -64, k), 1);
            }
        }
    }

    private static void goodAndHeldEverywhere() {
        A.says("==== 1: each cell, beside the model");
        for (int i = 0; i < 16; i++) {
            DigitDivider x = new DigitDivider();
            for (int e = -64; e < 64; e++) {
                A.due("holds(" + i + ", " + e + ")", x.holds(i, e), Model.isHeld(i, e) ? 1 : 0);
            }
            for (int k = -2; k <= 2; k++) {
                x = new DigitDivider();
                for (int e = -64; e < 64; e++) {
                    A.due("good(" + i + ", " + e + ", " + k + ")", x.good(i, e, k), Model.isGood(i, e, k) ? 1 : 0);
                }
            }
        }
    }

    private static void madeNearestToZero() {
        A.says("==== 1: MADE .. has in each cell, of the GOOD DIGITS, the one nearest to 0");
        DigitDivider x = new DigitDivider();
        int[][] both = {{0, 3, 0, 1}, {1, 12, 1, 2}, {0, -5, 0, -1}, {1, -14, -1, -2}};
        for (int[] c : both) {
            String cell = "(" + c[0] + ", " + c[1] + ")";
            A.due("good " + c[2] + " at " + cell, x.good(c[0], c[1], c[2]), 1);
            A.due("good " + c[3] + " at " + cell, x.good(c[0], c[1], c[3]), 1);
            A.due("digit at " + cell, x.digit(0, c[0], c[1]), c[2]);
        }
        // Where none is held 0 is the nearest of all.
        A.due("digit(0, 0, 23)", x.digit(0, 0, 23), 0);
        A.due("digit(0, 0, -25)", x.digit(0, 0, -25), 0);
        A.due("digit(0, 15, 63)", x.digit(0, 15, 63), 0);
        A.due("digit(0, 0, -64)", x.digit(0, 0, -64), 0);
    }

    private static void madeAboveZero() {
        A.says("==== 1: of two as near the one above 0");
        // Two as near are both GOOD only where none is held, and there 0 is too; so it never decides.
        for (int i = 0; i < 16; i++) {
            for (int from = -64; from < 64; from += 64) {
                DigitDivider x = new DigitDivider();
                for (int e = from; e < from + 64; e++) {
                    boolean ones = x.good(i, e, 1) == 1 && x.good(i, e, -1) == 1;
                    boolean twos = x.good(i, e, 2) == 1 && x.good(i, e, -2) == 1;
                    int due = ones || twos ? 0 : Model.made(i, e);
                    A.due("digit(1, " + i + ", " + e + ")", x.digit(1, i, e), due);
                }
            }
        }
    }

    private static void madeWhereNoneIsGood() {
        A.says("==== 1: 0 where none is GOOD");
        // There is no such cell: what is MADE is GOOD everywhere.
        DigitDivider x = new DigitDivider();
        A.due("check(0)", x.check(0), 0);
        A.due("wrong(0, 0)", x.wrong(0, 0), -2);
        for (int i = 0; i < 16; i++) {
            x = new DigitDivider();
            for (int e = -64; e < 64; e++) {
                A.due("good of digit(0, " + i + ", " + e + ")", x.good(i, e, x.digit(0, i, e)), 1);
            }
        }
    }

    private static void fourTables() {
        A.says("==== 1: There are four TABLES, 0 .. 3");
        DigitDivider x = new DigitDivider();
        int[] digits = {1, -1, 2, -2};
        for (int table = 0; table < 4; table++) {
            A.due("set(" + table + ", 5, 0, ..)", x.set(table, 5, 0, digits[table]), 0);
        }
        for (int table = 0; table < 4; table++) {
            A.due("digit(" + table + ", 5, 0)", x.digit(table, 5, 0), digits[table]);
        }
        A.due("digit(4, 5, 0)", x.digit(4, 5, 0), -101);
        A.due("digit(-1, 5, 0)", x.digit(-1, 5, 0), -101);
    }

    // Promise 1

    private static void newObject() {
        A.says("Promise 1: All TABLES MADE, TABLE 0 in use; nothing was divided.");
        for (int table = 0; table < 4; table++) {
            A.due("new make(" + table + ")", new DigitDivider().make(table), 0);
            for (int i = 0; i < 16; i++) {
                DigitDivider x = new DigitDivider();
                for (int e = -64; e < 64; e++) {
                    A.due("new digit(" + table + ", " + i + ", " + e + ")", x.digit(table, i, e), Model.made(i, e));
                }
            }
        }
        A.due("new use(3)", new DigitDivider().use(3), 0);
        DigitDivider x = new DigitDivider();
        A.due("new quotient()", x.quotient(), 0);
        A.due("new rest()", x.rest(), 0);
        A.due("new left()", x.left(), 0);
        for (int what = 0; what < 5; what++) {
            A.due("new told(" + what + ")", x.told(what), 0);
            A.due("new state(0, " + what + ")", x.state(0, what), 0);
            A.due("new step(1, " + what + ")", x.step(1, what), -101);
        }
    }

    // Promise 2

    private static void digit() {
        A.says("Promise 2: The DIGIT of a cell.");
        DigitDivider x = new DigitDivider();
        A.due("digit(0, 0, 11)", x.digit(0, 0, 11), 1);
        A.due("digit(0, 0, 12)", x.digit(0, 0, 12), 2);
        A.due("digit(3, 0, -13)", x.digit(3, 0, -13), -1);
        A.due("digit(3, 0, -14)", x.digit(3, 0, -14), -2);
        A.due("digit(3, 15, 63)", x.digit(3, 15, 63), 0);
        A.due("digit(0, 0, -64)", x.digit(0, 0, -64), 0);
    }

    private static void digitRefused() {
        A.says("Promise 2: BAD less 100: -101.");
        DigitDivider x = new DigitDivider();
        for (int no : NO_TABLE) {
            A.due("digit of no table " + no, x.digit(no, 0, 0), -101);
        }
        for (int no : NO_ROW) {
            A.due("digit of no row " + no, x.digit(0, no, 0), -101);
        }
        for (int no : NO_COLUMN) {
            A.due("digit of no column " + no, x.digit(0, 0, no), -101);
            A.due("digit of the last row and no column " + no, x.digit(3, 15, no), -101);
        }
    }

    // Promise 3

    private static void set() {
        A.says("Promise 3: A cell gets a DIGIT: what it was.");
        DigitDivider x = new DigitDivider();
        A.due("set(1, 0, 12, -2)", x.set(1, 0, 12, -2), 2);
        A.due("set(1, 0, 12, 1)", x.set(1, 0, 12, 1), -2);
        A.due("set(1, 0, 12, 1) as it is", x.set(1, 0, 12, 1), 1);
        A.due("digit(1, 0, 12) as set", x.digit(1, 0, 12), 1);
        A.due("digit(0, 0, 12) not set", x.digit(0, 0, 12), 2);
        A.due("digit(1, 1, 12) not set", x.digit(1, 1, 12), 1);
        A.due("digit(1, 0, 13) not set", x.digit(1, 0, 13), 2);
        A.due("set(3, 15, 63, 2)", x.set(3, 15, 63, 2), 0);
        A.due("set(3, 15, 63, 0)", x.set(3, 15, 63, 0), 2);
        A.due("set(0, 0, -64, -1)", x.set(0, 0, -64, -1), 0);
        A.due("digit(0, 0, -64) as set", x.digit(0, 0, -64), -1);
    }

    private static void setRefused() {
        A.says("Promise 3: BAD less 100: -101.");
        DigitDivider x = new DigitDivider();
        for (int no : NO_TABLE) {
            A.due("set of no table " + no, x.set(no, 0, 0, 1), -101);
        }
        for (int no : NO_ROW) {
            A.due("set of no row " + no, x.set(0, no, 0, 1), -101);
        }
        for (int no : NO_COLUMN) {
            A.due("set of no column " + no, x.set(0, 1, no, 1), -101);
        }
        for (int no : NO_DIGIT) {
            A.due("set of no digit " + no, x.set(0, 0, 0, no), -101);
        }
        for (int table = 0; table < 4; table++) {
            A.due("make(" + table + ") after refusals", x.make(table), 0);
        }
    }

    // Promise 4

    private static void make() {
        A.says("Promise 4: A TABLE is MADE: in how many cells it was otherwise.");
        DigitDivider x = new DigitDivider();
        x.set(2, 0, 12, 1);
        x.set(2, 15, 63, 1);
        x.set(2, 0, -64, 1);
        x.set(2, 1, 12, 2);
        x.set(1, 3, 3, 2);
        A.due("make(2)", x.make(2), 4);
        A.due("make(2) again", x.make(2), 0);
        A.due("digit(2, 0, 12) made", x.digit(2, 0, 12), 2);
        A.due("digit(2, 15, 63) made", x.digit(2, 15, 63), 0);
        A.due("digit(2, 0, -64) made", x.digit(2, 0, -64), 0);
        A.due("digit(2, 1, 12) made, though the other was good", x.digit(2, 1, 12), 1);
        A.due("digit(1, 3, 3) not made", x.digit(1, 3, 3), 2);
        A.due("make(1)", x.make(1), 1);
    }

    private static void makeRefused() {
        A.says("Promise 4: BAD.");
        DigitDivider x = new DigitDivider();
        for (int no : NO_TABLE) {
            A.due("make of no table " + no, x.make(no), -1);
        }
    }

    // Promise 5

    private static void copy() {
        A.says("Promise 5: A TABLE becomes as another one: in how many cells it was otherwise.");
        DigitDivider x = new DigitDivider();
        x.set(0, 0, 12, 1);
        x.set(0, 15, 63, -2);
        x.set(3, 15, 63, -2);
        x.set(3, 7, 7, -2);
        A.due("copy(0, 3)", x.copy(0, 3), 2);
        A.due("copy(0, 3) again", x.copy(0, 3), 0);
        A.due("digit(3, 0, 12) copied", x.digit(3, 0, 12), 1);
        A.due("digit(3, 7, 7) copied", x.digit(3, 7, 7), Model.made(7, 7));
        x.set(3, 0, 12, -1);
        A.due("digit(0, 0, 12) is its own", x.digit(0, 0, 12), 1);
        x.set(0, 0, -64, 2);
        A.due("copy(1, 0)", x.copy(1, 0), 3);
        A.due("make(0) after a made one was copied", x.make(0), 0);
        A.due("make(1), which was copied", x.make(1), 0);
    }

    private static void copyOntoItself() {
        A.says("Promise 5: (from a table to itself)");
        DigitDivider x = new DigitDivider();
        x.set(2, 0, 12, 1);
        A.due("copy(2, 2)", x.copy(2, 2), 0);
        A.due("digit(2, 0, 12) stays", x.digit(2, 0, 12), 1);
        A.due("make(2)", x.make(2), 1);
    }

    private static void copyRefused() {
        A.says("Promise 5: BAD.");
        DigitDivider x = new DigitDivider();
        for (int no : NO_TABLE) {
            A.due("copy of no table " + no, x.copy(no, 0), -1);
            A.due("copy to no table " + no, x.copy(0, no), -1);
            A.due("copy of none to none " + no, x.copy(no, no), -1);
        }
    }

    // Promises 6 and 7

    private static void good() {
        A.says("Promise 6: Whether a DIGIT is GOOD in a cell: 1, 0.");
        DigitDivider x = new DigitDivider();
        // 2/3 of 1/2 is 16/48; column 3 ends at 5/16 = 15/48, column 4 at 18/48.
        A.due("good(0, 3, 0)", x.good(0, 3, 0), 1);
        A.due("good(0, 4, 0)", x.good(0, 4, 0), 0);
        x.set(0, 0, 3, 2);
        A.due("good(0, 3, 0), whatever a table has", x.good(0, 3, 0), 1);
        A.due("good(0, 3, 2), whatever a table has", x.good(0, 3, 2), 0);
    }

    private static void goodRefused() {
        A.says("Promise 6: BAD.");
        DigitDivider x = new DigitDivider();
        for (int no : NO_ROW) {
            A.due("good of no row " + no, x.good(no, 0, 0), -1);
        }
        for (int no : NO_COLUMN) {
            A.due("good of no column " + no, x.good(0, no, 0), -1);
        }
        for (int no : NO_DIGIT) {
            A.due("good of no digit " + no, x.good(0, 0, no), -1);
            A.due("good of no digit where none is held " + no, x.good(0, 63, no), -1);
        }
    }

    private static void holds() {
        A.says("Promise 7: Whether a cell HOLDS a pair: 1, 0.");
        DigitDivider x = new DigitDivider();
        // 8/3 of 17/32 is 136/96, so v = 22/16 = 132/96 is held and 23/16 = 138/96 not.
        A.due("holds(0, 22)", x.holds(0, 22), 1);
        A.due("holds(0, 23)", x.holds(0, 23), 0);
        A.due("holds(0, -24)", x.holds(0, -24), 1);
        A.due("holds(0, -25)", x.holds(0, -25), 0);
    }

    private static void holdsRefused() {
        A.says("Promise 7: BAD.");
        DigitDivider x = new DigitDivider();
        for (int no : NO_ROW) {
            A.due("holds of no row " + no, x.holds(no, 0), -1);
        }
        for (int no : NO_COLUMN) {
            A.due("holds of no column " + no, x.holds(0, no), -1);
        }
    }

    // Promise 8

    private static void check() {
        A.says("Promise 8: How many cells of a TABLE have a DIGIT that is not GOOD.");
        DigitDivider x = new DigitDivider();
        A.due("check(1) of a made table", x.check(1), 0);
        x.set(1, 0, 12, 1);
        x.set(1, 15, 42, 0);
        x.set(1, 0, -24, 0);
        A.due("check(1)", x.check(1), 3);
        x.set(1, 0, 3, 1);
        A.due("check(1) with another good digit", x.check(1), 3);
        x.set(1, 0, 12, 2);
        A.due("check(1) with one mended", x.check(1), 2);
        A.due("check(0)", x.check(0), 0);
        // A row of -1 alone: it holds -24 .. 22, and -1 is good from -13 on up to -5.
        for (int e = -64; e < 64; e++) {
            x.set(2, 0, e, -1);
        }
        A.due("check(2) with a row of -1", x.check(2), 47 - 9);
    }

    private static void checkWhereNoneIsHeld() {
        A.says("Promise 8: (a cell that HOLDS none is not counted)");
        DigitDivider x = new DigitDivider();
        x.set(1, 15, 63, -2);
        x.set(1, 0, -64, 2);
        x.set(1, 1, 24, -2);
        x.set(1, 1, -26, 2);
        A.due("check(1)", x.check(1), 0);
        A.due("wrong(1, 0)", x.wrong(1, 0), -2);
        A.due("make(1)", x.make(1), 4);
    }

    private static void checkRefused() {
        A.says("Promise 8: BAD.");
        DigitDivider x = new DigitDivider();
        for (int no : NO_TABLE) {
            A.due("check of no table " + no, x.check(no), -1);
        }
    }

    // Promise 9

    private static void wrong() {
        A.says("Promise 9: The k-th cell (from 0 on, ROW by ROW, COLUMNS rising) .. 128 times its ROW and its COLUMN and 64.");
        DigitDivider x = withFiveWrong();
        // The first cell that can be wrong at all, and the last one.
        A.due("wrong(1, 0)", x.wrong(1, 0), 40);
        A.due("wrong(1, 1)", x.wrong(1, 1), 50);
        A.due("wrong(1, 2)", x.wrong(1, 2), 76);
        A.due("wrong(1, 3)", x.wrong(1, 3), 7 * 128 + 64);
        A.due("wrong(1, 4)", x.wrong(1, 4), 15 * 128 + 106);
    }

    private static DigitDivider withFiveWrong() {
        DigitDivider x = new DigitDivider();
        x.set(1, 15, 42, 0);
        x.set(1, 0, 12, 1);
        x.set(1, 0, -14, 0);
        x.set(1, 7, 0, 2);
        x.set(1, 3, -60, 2);
        x.set(1, 0, -24, -1);
        return x;
    }

    private static void wrongRefused() {
        A.says("Promise 9: BAD");
        DigitDivider x = withFiveWrong();
        A.due("wrong(1, -1)", x.wrong(1, -1), -1);
        A.due("wrong(1, MIN)", x.wrong(1, MIN), -1);
        A.due("wrong(0, -1) of a made table", x.wrong(0, -1), -1);
        for (int no : NO_TABLE) {
            A.due("wrong of no table " + no, x.wrong(no, 0), -1);
        }
    }

    private static void wrongNotSoMany() {
        A.says("Promise 9: NOT: there are not so many.");
        DigitDivider x = withFiveWrong();
        A.due("wrong(1, 5)", x.wrong(1, 5), -2);
        A.due("wrong(1, 2048)", x.wrong(1, 2048), -2);
        A.due("wrong(1, MAX)", x.wrong(1, MAX), -2);
        A.due("wrong(0, 0)", x.wrong(0, 0), -2);
    }
}

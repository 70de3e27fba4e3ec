import java.util.ArrayList;
import java.util.List;
import java.util.function.Supplier;
import java.util.function.ToLongFunction;

/** 'What it is' and 'Terms': how long an object is used, what is refused, and that this changes nothing. */
public final class TermsTest {
    private static final int MIN = Integer.MIN_VALUE, MAX = Integer.MAX_VALUE;
    private static final int[] NO_TABLE = {-1, 4, MIN, MAX};
    private static final int[] NO_ROW = {-1, 16, MIN, MAX};
    private static final int[] NO_COLUMN = {-65, 64, MIN, MAX};
    private static final int[] NO_DIGIT = {-3, 3, MIN, MAX};
    private static final int MOST_DIGITS = 17;
    private static final Answers A = new Answers();

    private record Call(String text, ToLongFunction<DigitDivider> on, long due) { }

    public static void main(String[] args) {
        usedFor512Calls();
        notIsRefusedToo();
        refusalsAtANewObject();
        refusalsBehindADivision();
        refusalsBehindADivisionWithoutDigits();
        A.end();
    }

    private static void usedFor512Calls() {
        A.says("What it is: An object is used for at most 512 calls after it has been made");
        List<Call> calls = List.of(
            new Call("digit", x -> x.digit(3, 0, 12), 2),
            new Call("set", x -> x.set(1, 15, 63, 0), 0),
            new Call("make", x -> x.make(3), 0),
            new Call("copy", x -> x.copy(2, 3), 0),
            new Call("good", x -> x.good(0, 12, 2), 1),
            new Call("holds", x -> x.holds(15, 42), 1),
            new Call("check", x -> x.check(3), 0),
            new Call("wrong", x -> x.wrong(3, 0), -2),
            new Call("use", x -> x.use(0), 0),
            new Call("divide", x -> x.divide(MIN, 1), 17),
            new Call("quotient", DigitDivider::quotient, 0),
            new Call("rest", DigitDivider::rest, 0),
            new Call("left", DigitDivider::left, 0),
            new Call("step", x -> x.step(1, 0), -101),
            new Call("state", x -> x.state(0, 0), 0),
            new Call("told", x -> x.told(3), 0),
            new Call("sweep", x -> x.sweep(MAX - 150, 300, 1), 0));
        for (Call call : calls) {
            DigitDivider x = new DigitDivider();
            for (int nth = 1; nth <= Answers.CALLS; nth++) {
                A.due("call " + nth + ", " + call.text, call.on.applyAsLong(x), call.due);
            }
        }
    }

    private static void notIsRefusedToo() {
        A.says("Terms: Refusals are answers: .. NOT -2 (as told)");
        A.due("wrong(0, 0) of a new object", new DigitDivider().wrong(0, 0), -2);
        A.due("wrong(2, 1) of two wrong cells", spoiled().wrong(2, 1), 2 * 128 + 77);
        A.due("wrong(2, 2) of two wrong cells", spoiled().wrong(2, 2), -2);
        A.due("NOT", DigitDivider.NOT, -2);
    }

    private static void refusalsAtANewObject() {
        A.says("Terms: What is refused changes nothing. (a new object)");
        refusals(DigitDivider::new);
    }

    private static void refusalsBehindADivision() {
        A.says("Terms: What is refused changes nothing. (behind a division by a spoiled table)");
        A.due("digits of the division", spoiled().told(3), 8);
        refusals(TermsTest::spoiled);
    }

    private static void refusalsBehindADivisionWithoutDigits() {
        A.says("Terms: What is refused changes nothing. (behind a division without digits)");
        A.due("digits of the division", withoutDigits().told(3), 0);
        refusals(TermsTest::withoutDigits);
    }

    private static DigitDivider spoiled() {
        DigitDivider x = new DigitDivider();
        x.set(0, 15, 42, 0);
        x.set(1, 0, -64, 2);
        x.set(2, 2, 13, 0);
        x.set(2, 0, 0, 2);
        x.set(3, 15, 63, -1);
        x.use(2);
        x.divide(-100003, 9);
        return x;
    }

    private static DigitDivider withoutDigits() {
        DigitDivider x = spoiled();
        x.divide(-3, 5);
        return x;
    }

    private static void refusals(Supplier<DigitDivider> made) {
        List<List<Call>> readings = readings(made);
        for (Call refused : refused()) {
            for (List<Call> part : readings) {
                DigitDivider x = made.get();
                A.due(refused.text, refused.on.applyAsLong(x), refused.due);
                for (Call reading : part) {
                    A.due(reading.text + " behind " + refused.text, reading.on.applyAsLong(x), reading.due);
                }
            }
        }
    }

    private static List<Call> refused() {
        List<Call> all = new ArrayList<>();
        for (int no : NO_TABLE) {
            all.add(new Call("digit(" + no + ", 0, 0)", x -> x.digit(no, 0, 0), -101));
            all.add(new Call("set(" + no + ", 0, 0, 1)", x -> x.set(no, 0, 0, 1), -101));
            all.add(new Call("make(" + no + ")", x -> x.make(no), -1));
            all.add(new Call("copy(" + no + ", 1)", x -> x.copy(no, 1), -1));
            all.add(new Call("copy(1, " + no + ")", x -> x.copy(1, no), -1));
            all.add(new Call("copy(" + no + ", " + no + ")", x -> x.copy(no, no), -1));
            all.add(new Call("check(" + no + ")", x -> x.check(no), -1));
            all.add(new Call("wrong(" + no + ", 0)", x -> x.wrong(no, 0), -1));
            all.add(new Call("wrong(" + no + ", MAX)", x -> x.wrong(no, MAX), -1));
            all.add(new Call("use(" + no + ")", x -> x.use(no), -1));
        }
        for (int no : NO_ROW) {
            all.add(new Call("digit(1, " + no + ", 0)", x -> x.digit(1, no, 0), -101));
            all.add(new Call("set(1, " + no + ", 0, 1)", x -> x.set(1, no, 0, 1), -101));
            all.add(new Call("good(" + no + ", 0, 0)", x -> x.good(no, 0, 0), -1));
            all.add(new Call("holds(" + no + ", 0)", x -> x.holds(no, 0), -1));
        }
        for (int no : NO_COLUMN) {
            all.add(new Call("digit(1, 1, " + no + ")", x -> x.digit(1, 1, no), -101));
            all.add(new Call("set(1, 1, " + no + ", 1)", x -> x.set(1, 1, no, 1), -101));
            all.add(new Call("good(1, " + no + ", 0)", x -> x.good(1, no, 0), -1));
            all.add(new Call("holds(1, " + no + ")", x -> x.holds(1, no), -1));
        }
        for (int no : NO_DIGIT) {
            all.add(new Call("set(2, 0, 0, " + no + ")", x -> x.set(2, 0, 0, no), -101));
            all.add(new Call("good(0, 0, " + no + ")", x -> x.good(0, 0, no), -1));
        }
        for (int no : new int[] {-1, MIN}) {
            all.add(new Call("wrong(2, " + no + ")", x -> x.wrong(2, no), -1));
        }
        all.add(new Call("wrong(2, MAX)", x -> x.wrong(2, MAX), -2));
        addRefusedOfDividing(all);
        return all;
    }

    private static void addRefusedOfDividing(List<Call> all) {
        for (int a : new int[] {0, 7, MIN, MAX}) {
            all.add(new Call("divide(" + a + ", 0)", x -> x.divide(a, 0), -1));
            all.add(new Call("sweep(" + a + ", 300, 0)", x -> x.sweep(a, 300, 0), -1));
        }
        for (int no : new int[] {0, -1, 301, MIN, MAX}) {
            all.add(new Call("sweep(100, " + no + ", 3)", x -> x.sweep(100, no, 3), -1));
        }
        for (int no : new int[] {-1, 18, MIN, MAX}) {
            all.add(new Call("step(" + no + ", 0)", x -> x.step(no, 0), -101));
            all.add(new Call("step(1, " + no + ")", x -> x.step(1, no), -101));
            all.add(new Call("state(" + no + ", 3)", x -> x.state(no, 3), 0));
            all.add(new Call("state(0, " + no + ")", x -> x.state(0, no), 0));
            all.add(new Call("told(" + no + ")", x -> x.told(no), -1));
        }
    }

    /** All that can be read of such an object and what it is, in parts that stay below 512 calls. */
    private static List<List<Call>> readings(Supplier<DigitDivider> made) {
        List<List<Call>> parts = new ArrayList<>();
        for (int no = 0; no < 4; no++) {
            int table = no;
            for (int i = 0; i < 16; i++) {
                int row = i;
                List<Call> cells = new ArrayList<>();
                for (int e = -64; e < 64; e++) {
                    int column = e;
                    add(cells, made, "digit(" + table + ", " + i + ", " + e + ")", x -> x.digit(table, row, column));
                }
                parts.add(cells);
            }
        }
        List<Call> division = new ArrayList<>();
        add(division, made, "quotient()", DigitDivider::quotient);
        add(division, made, "rest()", DigitDivider::rest);
        add(division, made, "left()", DigitDivider::left);
        for (int no = 0; no < 5; no++) {
            int what = no;
            add(division, made, "told(" + no + ")", x -> x.told(what));
            for (int nth = 0; nth <= MOST_DIGITS; nth++) {
                int j = nth;
                add(division, made, "step(" + j + ", " + no + ")", x -> x.step(j, what));
                add(division, made, "state(" + j + ", " + no + ")", x -> x.state(j, what));
            }
        }
        add(division, made, "use(3)", x -> x.use(3));
        parts.add(division);
        return parts;
    }

    private static void add(List<Call> to, Supplier<DigitDivider> made, String text, ToLongFunction<DigitDivider> on) {
        to.add(new Call(text, on, on.applyAsLong(made.get())));
    }
}

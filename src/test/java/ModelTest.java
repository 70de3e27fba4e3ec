import java.util.Random;

/**
 * Runs of 512 calls of all kinds, right and wrong ones, each call beside the model's. A run's tables
 * are spoiled most where its divisors read them.
 */
public final class ModelTest {
    private static final int RUNS = 600;
    private static final int[] SPOILED = {0, 12, 60, 128};
    private static final Answers A = new Answers();

    private final DigitDivider x = new DigitDivider();
    private final Model model = new Model();
    private final Random random;
    private final String run;
    private final int divisor;
    private int calls = 0;

    private ModelTest(int seed) {
        random = new Random(seed);
        run = "run " + seed + ", call ";
        divisor = number() | 1;
    }

    public static void main(String[] args) {
        A.says("All promises: runs of 512 calls");
        for (int seed = 0; seed < RUNS; seed++) {
            ModelTest test = new ModelTest(seed);
            test.spoil(SPOILED[seed % SPOILED.length], seed / SPOILED.length % 3);
            while (test.calls < Answers.CALLS) {
                test.call();
            }
        }
        A.end();
    }

    private void spoil(int many, int kind) {
        due("divide by the divisor", x.divide(divisor, divisor), model.divide(divisor, divisor));
        int row = model.told(0);
        int table = random.nextInt(4);
        int only = random.nextInt(5) - 2;
        due("use(" + table + ")", x.use(table), model.use(table));
        for (int change = 0; change < many; change++) {
            int e = many == 128 ? change - 64 : random.nextInt(128) - 64;
            int digit = kind == 0 ? random.nextInt(5) - 2 : kind == 1 ? only : e < 0 ? -only : only;
            due("set", x.set(table, row, e, digit), model.set(table, row, e, digit));
        }
    }

    private void due(String call, long got, long want) {
        calls++;
        A.due(run + calls + ": " + call, got, want);
    }

    private void call() {
        switch (random.nextInt(6)) {
            case 0 -> callOfTables();
            case 1 -> callOfDividing();
            default -> callOfTheLatest();
        }
    }

    private void callOfTables() {
        int table = near(0, 3), other = near(0, 3), i = near(0, 15), k = near(-2, 2);
        int e = random.nextBoolean() ? near(-64, 63) : random.nextInt(90) - 46;
        String cell = i + ", " + e;
        switch (random.nextInt(8)) {
            case 0 -> due("digit(" + table + ", " + cell + ")", x.digit(table, i, e), model.digit(table, i, e));
            case 1 -> due("set(" + table + ", " + cell + ", " + k + ")", x.set(table, i, e, k), model.set(table, i, e, k));
            case 2 -> due("good(" + cell + ", " + k + ")", x.good(i, e, k), model.good(i, e, k));
            case 3 -> due("holds(" + cell + ")", x.holds(i, e), model.holds(i, e));
            case 4 -> due("check(" + table + ")", x.check(table), model.check(table));
            case 5 -> {
                int nth = random.nextInt(8) == 0 ? near(0, 2047) : near(0, Math.max(0, model.check(table)));
                due("wrong(" + table + ", " + nth + ")", x.wrong(table, nth), model.wrong(table, nth));
            }
            case 6 -> due("copy(" + table + ", " + other + ")", x.copy(table, other), model.copy(table, other));
            default -> {
                // Seldom, for it mends what the run has spoiled.
                int made = random.nextInt(4) == 0 ? table : -1;
                due("make(" + made + ")", x.make(made), model.make(made));
            }
        }
    }

    private void callOfDividing() {
        int b = random.nextInt(3) == 0 ? number() : divisor << random.nextInt(4);
        int a = number();
        if (random.nextInt(4) == 0) {
            a = b + random.nextInt(3) - 1;
        }
        int table = near(0, 3), many = near(1, 300);
        switch (random.nextInt(8)) {
            case 0 -> due("use(" + table + ")", x.use(table), model.use(table));
            case 1 -> due("sweep(" + a + ", " + many + ", " + b + ")", x.sweep(a, many, b), model.sweep(a, many, b));
            default -> due("divide(" + a + ", " + b + ")", x.divide(a, b), model.divide(a, b));
        }
    }

    private void callOfTheLatest() {
        int j = near(0, model.told(3)), what = near(0, 4);
        switch (random.nextInt(9)) {
            case 0 -> due("quotient()", x.quotient(), model.quotient());
            case 1 -> due("rest()", x.rest(), model.rest());
            case 2 -> due("left()", x.left(), model.left());
            case 3 -> due("told(" + what + ")", x.told(what), model.told(what));
            case 4, 5 -> due("step(" + j + ", " + what % 3 + ")", x.step(j, what % 3), model.step(j, what % 3));
            default -> due("state(" + j + ", " + what + ")", x.state(j, what), model.state(j, what));
        }
    }

    /** Mostly one of these numbers, at times the next one below or above, or far out. */
    private int near(int least, int most) {
        switch (random.nextInt(24)) {
            case 0: return least - 1;
            case 1: return most + 1;
            case 2: return random.nextInt();
            case 3: return least;
            case 4: return most;
            default: return least + random.nextInt(most - least + 1);
        }
    }

    private int number() {
        if (random.nextInt(8) == 0) {
            return Integer.MIN_VALUE + random.nextInt(3) - 1;
        }
        return random.nextInt() >> random.nextInt(32);
    }
}

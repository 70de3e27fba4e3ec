import java.util.Random;

/** Divisions by tables that are more and more spoiled, each beside the model's. */
public final class ModelTest {
    private static final Answers A = new Answers();

    public static void main(String[] args) {
        for (int seed = 0; seed < 60; seed++) {
            run(new Random(seed), seed);
        }
        A.end();
    }

    private static void run(Random random, int seed) {
        DigitDivider x = new DigitDivider();
        Model model = new Model();
        int changes = (seed % 6) * (seed % 6) * 300;
        for (int change = 0; change < changes; change++) {
            int table = random.nextInt(4), i = random.nextInt(16), e = random.nextInt(128) - 64;
            int digit = seed % 2 == 0 ? random.nextInt(5) - 2 : 0;
            A.due("set", x.set(table, i, e, digit), model.set(table, i, e, digit));
        }
        int table = random.nextInt(4);
        A.due("check(" + table + ")", x.check(table), model.check(table));
        int k = random.nextInt(40);
        A.due("wrong(" + table + ", " + k + ")", x.wrong(table, k), model.wrong(table, k));
        for (int round = 0; round < 60; round++) {
            table = random.nextInt(4);
            A.due("use", x.use(table), model.inUse);
            model.inUse = table;
            int b = number(random);
            if (b != 0) {
                divided(x, model, number(random), b, "seed " + seed + ", ");
            }
        }
        for (int round = 0; round < 4; round++) {
            swept(x, model, number(random), 1 + random.nextInt(300), number(random) | 1);
        }
        A.due("make(" + table + ")", x.make(table), model.make(table));
    }

    private static int number(Random random) {
        if (random.nextInt(8) == 0) {
            return Integer.MIN_VALUE + random.nextInt(3) - 1;
        }
        return random.nextInt() >> random.nextInt(32);
    }

    private static void divided(DigitDivider x, Model model, int a, int b, String seed) {
        String call = seed + "divide(" + a + ", " + b + ")";
        model.divide(a, b);
        A.due(call, x.divide(a, b), model.n);
        A.due(call + ", quotient()", x.quotient(), model.quotient);
        A.due(call + ", rest()", x.rest(), model.rest);
        A.due(call + ", left()", x.left(), model.left);
        int[] told = {model.row, model.s, model.t, model.n, model.notZero};
        for (int what = 0; what < 5; what++) {
            A.due(call + ", told(" + what + ")", x.told(what), told[what]);
        }
        for (int j = 0; j <= Model.DIGITS_AT_MOST + 1; j++) {
            boolean is = j <= model.n;
            A.due(call + ", step(" + j + ", 0)", x.step(j, 0), is && j > 0 ? model.digits[j] : -101);
            A.due(call + ", step(" + j + ", 1)", x.step(j, 1), is && j > 0 ? model.estimates[j] : -101);
            A.due(call + ", state(" + j + ", 0)", x.state(j, 0), is ? model.sums[j] : 0);
            A.due(call + ", state(" + j + ", 1)", x.state(j, 1), is ? model.carries[j] : 0);
            A.due(call + ", state(" + j + ", 2)", x.state(j, 2), is ? model.qs[j] : 0);
            A.due(call + ", state(" + j + ", 3)", x.state(j, 3), is ? model.qs[j] - 1 : 0);
        }
    }

    private static void swept(DigitDivider x, Model model, int low, int many, int b) {
        int found = 0;
        for (int offset = 0; offset < many; offset++) {
            int a = low + offset;
            model.divide(a, b);
            found += model.quotient != a / b || model.rest != a % b ? 1 : 0;
        }
        A.due("sweep(" + low + ", " + many + ", " + b + ")", x.sweep(low, many, b), found);
    }
}

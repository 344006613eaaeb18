import java.util.Random;

/** Random runs of 512 calls, right and wrong ones, each answer compared with the plain model's. */
public final class RandomRunsTest {
    private static final String[] NAMES = {
        "feed", "type", "fault", "told", "word", "end", "line", "change", "insert", "take", "measure", "rule", "fee", "free",
        "drift", "undo", "cost", "first", "known", "with", "best", "see", "write", "tear", "seed", "keep", "goBack"};

    /** How often each of the names is called. */
    private static final int[] WEIGHTS = {
        30, 3, 2, 16, 14, 8, 8, 6, 6, 4, 6, 5, 3, 3,
        5, 4, 5, 3, 5, 3, 2, 7, 8, 1, 2, 1, 2};

    private static final int[] EXTREMES = {
        -1, -2, 41, 256, 1000, Integer.MAX_VALUE, Integer.MIN_VALUE, Integer.MAX_VALUE - 1, Integer.MIN_VALUE + 1};

    private final Random random;
    private final EvenBreaks x = new EvenBreaks();
    private final PlainModel model = new PlainModel();

    private RandomRunsTest(long seed) {
        random = new Random(seed);
    }

    public static void main(String[] args) {
        int runs = args.length > 0 ? Integer.parseInt(args[0]) : 150;
        int start = args.length > 1 ? Integer.parseInt(args[1]) : 1;
        Due due = new Due("RandomRunsTest");
        for (int run = start; run < start + runs; run++) {
            new RandomRunsTest(run).run(due, run);
        }
        due.close();
    }

    private void run(Due due, int run) {
        int first = run % 3 == 0 ? startFull(due, run) : 0;
        for (int i = first; i < 512; i++) {
            String name = pick();
            int a = number(name, 0);
            int b = number(name, 1);
            int c = random.nextInt(2);
            String told = "run " + run + " call " + i + ": " + name + "(" + a + ", " + b + ", " + c + ")";
            due.is(told, call(name, a, b, c), model.call(name, a, b, c));
        }
    }

    /** Long texts are rare where letters alone make them, so some runs begin with many words. */
    private int startFull(Due due, int run) {
        due.is("run " + run + " seed", call("seed", run, 0, 0), model.call("seed", run, 0, 0));
        for (int i = 1; i <= 3; i++) {
            int n = 16 - run % 5;
            due.is("run " + run + " drift " + i, call("drift", n, 0, 0), model.call("drift", n, 0, 0));
        }
        return 4;
    }

    private String pick() {
        int sum = 0;
        for (int weight : WEIGHTS) {
            sum += weight;
        }
        int left = random.nextInt(sum);
        int at = 0;
        while (left >= WEIGHTS[at]) {
            left -= WEIGHTS[at];
            at++;
        }
        return NAMES[at];
    }

    private int number(String name, int place) {
        if (random.nextInt(25) == 0) {
            return EXTREMES[random.nextInt(EXTREMES.length)];
        }
        int words = x.told(0);
        switch (name) {
            case "feed": return letter();
            case "told": return random.nextInt(19);
            case "word": return place == 0 ? random.nextInt(words + 1) : random.nextInt(3) == 0 ? 3 : random.nextInt(16);
            case "end": return place == 0 ? random.nextInt(words + 1) : random.nextInt(3);
            case "line": return place == 0 ? random.nextInt(x.told(7) + 1) : random.nextInt(4);
            case "change":
            case "insert":
            case "take":
            case "cost":
            case "known": return random.nextInt(words + 1);
            case "see": return place == 0 ? random.nextInt(words + 1) : random.nextInt(2);
            case "write": return place == 0 ? random.nextInt(5) : Math.max(x.line(random.nextInt(5), 0), -1);
            case "measure": return 1 + random.nextInt(random.nextInt(3) == 0 ? 200 : 60);
            case "best": return 1 + random.nextInt(200);
            case "rule": return random.nextInt(5);
            case "fee": return random.nextInt(100);
            case "drift": return 1 + random.nextInt(6);
            case "undo": return 1 + random.nextInt(random.nextInt(4) == 0 ? 16 : 4);
            case "with": return 1 + random.nextInt(Math.max(1, Math.min(40, words + 2)));
            case "seed": return random.nextInt(Integer.MAX_VALUE);
            default: return random.nextInt(2);
        }
    }

    private int letter() {
        int kind = random.nextInt(40);
        return kind == 0 ? random.nextInt(256) : kind < 8 ? ' ' : 'a' + random.nextInt(26);
    }

    private int call(String name, int a, int b, int c) {
        switch (name) {
            case "feed": return x.feed(a);
            case "type": return x.type();
            case "fault": return x.fault();
            case "told": return x.told(a);
            case "word": return x.word(a, b);
            case "end": return x.end(a, b);
            case "line": return x.line(a, b);
            case "change": return x.change(a);
            case "insert": return x.insert(a);
            case "take": return x.take(a);
            case "measure": return x.measure(a);
            case "rule": return x.rule(a);
            case "fee": return x.fee(a);
            case "free": return x.free(a == 1);
            case "drift": return x.drift(a);
            case "undo": return x.undo(a);
            case "cost": return x.cost(a, b);
            case "first": return x.first(a);
            case "known": return x.known(a, b);
            case "with": return x.with(a);
            case "best": return x.best(a, b, c);
            case "see": return x.see(a, b == 1);
            case "write": return x.write(a, b);
            case "tear": return x.tear();
            case "seed": return x.seed(a);
            case "keep": return x.keep(a);
            case "goBack": return x.goBack(a);
            default: throw new IllegalArgumentException(name);
        }
    }
}

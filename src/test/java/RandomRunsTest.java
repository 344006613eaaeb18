import java.util.ArrayList;
import java.util.List;
import java.util.Random;

/** Random runs of 512 calls, right and wrong ones, each answer compared with the plain model's. */
public final class RandomRunsTest {
    private static final String[] NAMES = {
        "feed", "type", "fault", "told", "word", "end", "line", "change", "insert", "take", "measure", "rule", "fee", "free",
        "drift", "undo", "cost", "first", "known", "with", "best", "see", "write", "tear", "seed", "keep", "goBack"};

    /** How often each of the names is called. */
    private static final int[] WEIGHTS = {
        30, 3, 2, 16, 14, 8, 8, 6, 6, 4, 6, 5, 3, 3,
        5, 4, 5, 3, 5, 3, 2, 7, 8, 1, 2, 1, 2};

    private static final int[] EXTREMES = {
        -1, -2, 41, 256, 1000, Integer.MAX_VALUE, Integer.MIN_VALUE, Integer.MAX_VALUE - 1, Integer.MIN_VALUE + 1};

    private final Random random;
    private final boolean atEdges;
    private final Run run = new Run();
    private final PlainModel model = new PlainModel();

    private RandomRunsTest(int number) {
        random = new Random(number);
        atEdges = number % 2 == 0;
    }

    public static void main(String[] args) {
        int runs = args.length > 0 ? Integer.parseInt(args[0]) : 200;
        int start = args.length > 1 ? Integer.parseInt(args[1]) : 1;
        Due due = new Due("RandomRunsTest");
        for (int number = start; number < start + runs; number++) {
            new RandomRunsTest(number).go(due, number);
        }
        due.close();
    }

    private void go(Due due, int number) {
        List<String> begin = number % 3 == 0 ? manyWords(number) : number % 5 == 0 ? nearlyFull(number) : List.of();
        for (String call : begin) {
            String[] parts = (call + " 0 0").split(" ");
            both(due, number, parts[0], Integer.parseInt(parts[1]), Integer.parseInt(parts[2]), 0);
        }
        while (run.callsLeft() > 0) {
            String name = pick();
            both(due, number, name, argument(name, 0), argument(name, 1), argument(name, 2));
        }
    }

    private void both(Due due, int number, String name, int a, int b, int c) {
        String told = "run " + number + ", " + run.callsLeft() + " calls left: " + name + "(" + a + ", " + b + ", " + c + ")";
        due.is(told, run.call(name, a, b, c), model.call(name, a, b, c));
    }

    /** Long texts are rare where letters alone make them. */
    private static List<String> manyWords(int number) {
        String drift = "drift " + (16 - number % 5);
        return List.of("seed " + number, drift, drift, drift);
    }

    /** 39 words, 19 entries, 5 that are seen, and of the letters nearly as many as there may be. */
    private static List<String> nearlyFull(int number) {
        List<String> calls = new ArrayList<>(List.of("seed " + number, "drift 16", "drift 16", "drift 7"));
        for (int i = 0; i < 19; i++) {
            calls.add("write " + i + " " + (i == 0 ? 0 : -1));
        }
        for (int i = 0; i < 5; i++) {
            calls.add("see 0 1");
        }
        for (int i = 0; i < 230; i++) {
            calls.add("feed 32");
        }
        return calls;
    }

    private String pick() {
        int sum = 0;
        for (int weight : WEIGHTS) {
            sum += weight;
        }
        int left = random.nextInt(sum);
        int at = 0;
        while (left >= WEIGHTS[at]) {
            left -= WEIGHTS[at];
            at++;
        }
        return NAMES[at];
    }

    private int told(int what) {
        return model.call("told", what, 0, 0);
    }

    private int argument(String name, int place) {
        if (random.nextInt(25) == 0) {
            return EXTREMES[random.nextInt(EXTREMES.length)];
        }
        int words = told(0);
        switch (name) {
            case "feed": return letter();
            case "told": return between(0, 18);
            case "word": return place == 0 ? between(0, words - 1) : random.nextInt(3) == 0 ? 3 : between(0, 15);
            case "end": return place == 0 ? between(0, words) : between(0, 2);
            case "line": return place == 0 ? between(0, told(7) - 1) : between(0, 3);
            case "change":
            case "take": return between(0, words - 1);
            case "insert":
            case "cost":
            case "known": return between(0, words);
            case "see": return place == 0 ? between(0, words) : random.nextInt(2);
            case "write": return place == 0 ? entryLine() : entryEnd(words);
            case "measure": return random.nextInt(3) == 0 ? between(1, 200) : 1 + random.nextInt(60);
            case "best": return place == 2 ? between(0, 1) : between(1, 200);
            case "rule": return between(0, 4);
            case "fee": return between(0, 99);
            case "drift": return random.nextInt(3) == 0 ? between(1, 16) : 1 + random.nextInt(4);
            case "undo": return random.nextInt(3) == 0 ? between(1, 16) : between(1, told(18));
            case "with": return random.nextInt(2) == 0 ? between(1, 40) : between(1, words);
            case "seed": return between(0, Integer.MAX_VALUE);
            default: return between(0, 1);
        }
    }

    /** One of the numbers, and at times one past them; runs at the edges take the first, the last and their neighbours often. */
    private int between(int first, int last) {
        if (random.nextInt(atEdges ? 2 : 12) == 0) {
            return new int[] {first - 1, first, last, last + 1}[random.nextInt(4)];
        }
        return last < first ? first : (int) (first + (long) (random.nextDouble() * ((long) last - first + 1)));
    }

    private int entryLine() {
        return random.nextInt(4) == 0 ? between(0, 39) : random.nextInt(5);
    }

    private int entryEnd(int words) {
        return random.nextInt(4) == 0 ? between(0, words) : Math.max(model.call("line", random.nextInt(5), 0, 0), -1);
    }

    private int letter() {
        int kind = random.nextInt(40);
        if (kind == 0) {
            return between(0, 255);
        }
        if (kind == 1 && atEdges) {
            return new int[] {31, 33, 96, 97, 122, 123}[random.nextInt(6)];
        }
        return kind < 8 ? ' ' : 'a' + random.nextInt(26);
    }
}

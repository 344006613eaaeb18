import java.util.ArrayList;
import java.util.List;

/**
 * An object with the calls that were made on it, each told as a text ("write 40 3"; a boolean is 0 or 1; "'ab c" feeds
 * these letters), so that tests can hold calls in tables and make them anew. No promise holds behind the 512th call, so
 * a test that goes on further is itself wrong.
 */
final class Run {
    static final int MOST_CALLS = 512;

    private final EvenBreaks x = new EvenBreaks();
    private int calls = 0;

    Run(String... told) {
        this(List.of(told));
    }

    Run(List<String> told) {
        for (String call : told) {
            call(call);
        }
    }

    int call(String told) {
        if (told.startsWith("'")) {
            return feedAll(told.substring(1));
        }
        String[] parts = told.split(" ");
        int[] numbers = new int[3];
        for (int i = 1; i < parts.length; i++) {
            numbers[i - 1] = Integer.parseInt(parts[i]);
        }
        return call(parts[0], numbers[0], numbers[1], numbers[2]);
    }

    private int feedAll(String letters) {
        int answer = 0;
        for (char letter : letters.toCharArray()) {
            answer = call("feed", letter, 0, 0);
        }
        return answer;
    }

    int call(String name, int a, int b, int c) {
        calls++;
        if (calls > MOST_CALLS) {
            throw new IllegalStateException("a test makes more than 512 calls");
        }
        switch (name) {
            case "feed": return x.feed(a);
            case "type": return x.type();
            case "fault": return x.fault();
            case "told": return x.told(a);
            case "word": return x.word(a, b);
            case "end": return x.end(a, b);
            case "line": return x.line(a, b);
            case "change": return x.change(a);
            case "insert": return x.insert(a);
            case "take": return x.take(a);
            case "measure": return x.measure(a);
            case "rule": return x.rule(a);
            case "fee": return x.fee(a);
            case "free": return x.free(a == 1);
            case "drift": return x.drift(a);
            case "undo": return x.undo(a);
            case "cost": return x.cost(a, b);
            case "first": return x.first(a);
            case "known": return x.known(a, b);
            case "with": return x.with(a);
            case "best": return x.best(a, b, c);
            case "see": return x.see(a, b == 1);
            case "write": return x.write(a, b);
            case "tear": return x.tear();
            case "seed": return x.seed(a);
            case "keep": return x.keep(a);
            case "goBack": return x.goBack(a);
            default: throw new IllegalArgumentException(name);
        }
    }

    int callsLeft() {
        return MOST_CALLS - calls;
    }

    /** Its words with a blank between; asks for each letter once. */
    String text() {
        StringBuilder letters = new StringBuilder();
        int words = call("told 0");
        for (int w = 0; w < words; w++) {
            letters.append(w == 0 ? "" : " ");
            int length = call("word", w, 1, 0);
            for (int at = 0; at < length; at++) {
                letters.append((char) call("word", w, 4 + at, 0));
            }
        }
        return letters.toString();
    }

    static List<String> with(List<String> calls, String... more) {
        List<String> all = new ArrayList<>(calls);
        all.addAll(List.of(more));
        return all;
    }
}

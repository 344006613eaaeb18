import java.util.ArrayList;
import java.util.List;

/** All that can be told of an object behind some calls, asked of as many objects as the 512 calls of each make needful. */
final class Everything {
    private final List<String> calls;
    private final List<String> answers = new ArrayList<>();

    private Everything(List<String> calls) {
        this.calls = calls;
    }

    /** Each question with its answer. */
    static List<String> behind(List<String> calls) {
        Everything all = new Everything(calls);
        all.askWhatChangesNothing();
        all.askInARow(undone());
        all.askInARow(List.of("type", "fault", "told 0", "told 5", "told 6", "told 7", "told 18", "feed 97"));
        all.askInARow(List.of("seed 5", "seed 6", "drift 1", "told 0", "told 6", "seed 0"));
        all.askInARow(List.of("goBack 0", "told 0", "told 1", "told 2", "told 3", "told 4", "told 6", "told 18", "seed 0"));
        all.askInARow(List.of("goBack 1", "told 0", "told 1", "told 2", "told 3", "told 4", "told 6", "told 18", "seed 0"));
        all.askInARow(List.of("tear", "told 11", "told 12", "told 16", "told 17"));
        all.askInARow(List.of("feed 97", "see 0 0", "write 0 0", "told 5", "told 11", "told 12", "told 16", "told 17"));
        return all.answers;
    }

    /** Asks of what is like in every order, so of a new object whenever one has no calls left. */
    private void askWhatChangesNothing() {
        Run run = new Run(calls);
        List<String> questions = questions(run.call("told 0"), run.call("told 7"));
        for (String question : questions) {
            if (run.callsLeft() == 0) {
                run = new Run(calls);
            }
            answers.add(question + " = " + run.call(question));
        }
    }

    private static List<String> questions(int words, int lines) {
        List<String> all = new ArrayList<>(List.of("fault", "first 0", "first 1", "best 1 200 0", "best 1 200 1"));
        add(all, "told ", 0, 18);
        add(all, "with ", 1, 40);
        for (int w = 0; w <= words; w++) {
            add(all, "word " + w + " ", 0, 15);
        }
        for (int e = 0; e <= words + 1; e++) {
            add(all, "end " + e + " ", 0, 2);
        }
        for (int k = 0; k <= lines; k++) {
            add(all, "line " + k + " ", 0, 3);
        }
        for (int e = 0; e <= words; e++) {
            add(all, "cost " + e + " ", e + 1, words);
            add(all, "known " + e + " ", 0, e - 1);
        }
        return all;
    }

    private static void add(List<String> all, String question, int from, int to) {
        for (int last = from; last <= to; last++) {
            all.add(question + last);
        }
    }

    private static List<String> undone() {
        List<String> all = new ArrayList<>();
        for (int deed = 1; deed <= 17; deed++) {
            all.addAll(List.of("undo 1", "told 1", "told 2", "told 3", "told 4", "told 6", "told 7", "told 10", "told 18"));
        }
        return all;
    }

    private void askInARow(List<String> questions) {
        Run run = new Run(calls);
        StringBuilder before = new StringBuilder();
        for (String question : questions) {
            before.append(question);
            answers.add(before + " = " + run.call(question));
            before.append(", ");
        }
    }
}

import java.util.ArrayList;
import java.util.List;

/** The edges of promises 9 to 17: one word typed, 40 words, bounds of what is set, draws at 40 words, 16 deeds kept. */
public final class DeedsEdgesTest {
    private static final Due due = new Due("DeedsEdgesTest");
    private static final int NONE = EvenBreaks.NONE;
    private static final int UNKNOWN = EvenBreaks.UNKNOWN;
    private static final int OUTSIDE = EvenBreaks.OUTSIDE;
    private static final int NOT = EvenBreaks.NOT;
    private static final int FULL = EvenBreaks.FULL;
    private static final String TWELVE = "abcdefghijkl";
    private static final String FORTY = "'" + "a ".repeat(40);

    public static void main(String[] args) {
        changeBounds();
        changeWantsOneWord();
        insertBounds();
        insertAtForty();
        takeBounds();
        measureBounds();
        lawBounds();
        feeBounds();
        freeEitherWay();
        driftBounds();
        driftToForty();
        drawsLeftOver();
        undoBounds();
        undoKeepsSixteen();
        undoOfDrift();
        whatIsADeed();
        undoEachDeed();
        due.close();
    }

    /** Promise 9: "UNKNOWN (what is typed stays)" */
    private static void changeBounds() {
        Run run = new Run("'one two three", "type", "'xyz");
        due.row(run, "change -1", UNKNOWN, "change 3", UNKNOWN, "change 2147483647", UNKNOWN, "change -2147483648", UNKNOWN,
            "told 5", 3, "told 18", 1, "change 2", 6, "told 5", 0);
        due.isText("the last", run.text(), "one two xyz");
        due.row(run, "told 6", 10 * 10, "'ab", 2, "change 0", 4, "told 6", 12 * 12, "line 0 2", 18);
        due.isText("the first", run.text(), "ab two xyz");
        // Letters that stayed go on.
        due.row(run, "'ab", 2, "change 3", UNKNOWN, "'cd", 4, "change 1", 8);
        due.isText("the middle", run.text(), "ab abcd xyz");
        due.row(new Run("'a"), "change 0", UNKNOWN, "told 5", 1, "insert 0", 2, "'m", 1, "change 0", 3, "told 0", 1);
        Run full = new Run(FORTY, "type", "'m");
        due.row(full, "change 40", UNKNOWN, "change 39", 3, "told 0", 40, "word 39 4", 'm', "'w", 1, "change 0", 3, "word 0 4", 'w');
    }

    /** "NOT: no WORD, or more than one is typed" */
    private static void changeWantsOneWord() {
        Run run = new Run("'one", "type");
        due.row(run, "change 0", NOT, "' ", 1, "change 0", NOT, "'a b", 3, "change 0", NOT, "' a  b ", 6, "change 0", NOT);
        due.row(run, "told 5", 0, "fault", NONE, "told 18", 1, "word 0 1", 3);
        due.row(run, "'" + TWELVE, 12, "change 0", 20, "'" + TWELVE + "m", 13, "change 0", -12, "fault", 12, "told 5", 0, "word 0 1", 12);
        due.row(run, "'   i   ", 7, "change 0", 1, "fault", NONE, "'a bc ", 5, "change 0", NOT, FORTY, 80, "change 0", NOT,
            "told 5", 0, "word 0 0", 1, "told 18", 3);
        due.row(run, FORTY + "a", 81, "change 0", -13, "fault", 80, "word 0 0", 1);
    }

    /** Promise 10: "(w as many as there are: behind all)", "UNKNOWN (what is typed stays)", "NOT likewise" */
    private static void insertBounds() {
        Run run = new Run("'one two", "type", "'xyz");
        due.row(run, "insert -1", UNKNOWN, "insert 3", UNKNOWN, "insert 2147483647", UNKNOWN, "insert -2147483648", UNKNOWN, "told 5", 3,
            "told 0", 2, "insert 2", 6, "told 0", 3, "told 5", 0, "'i", 1, "insert 0", 1, "'mm", 2, "insert 3", 6);
        due.isText("ahead, behind all, ahead of the last", run.text(), "i one two mm xyz");
        due.row(run, "insert 0", NOT, "'  ", 2, "insert 5", NOT, "'a b", 3, "insert 5", NOT, "told 5", 0, "fault", NONE, "told 0", 5);
        due.row(run, "'" + TWELVE, 12, "insert 5", 20, "'" + TWELVE + "x", 13, "insert 5", -12, "fault", 12, "told 0", 6, "told 18", 5);
        due.row(new Run("'  w  "), "insert 1", UNKNOWN, "insert 0", 3, "told 0", 1, "word 0 1", 1);
    }

    /** "FULL (40)" */
    private static void insertAtForty() {
        Run run = new Run("'" + "a ".repeat(39), "type", "'m");
        due.row(run, "told 0", 39, "insert 40", UNKNOWN, "insert 39", 3, "told 0", 40, "word 39 4", 'm', "told 18", 2);
        due.row(run, "'w", 1, "insert 40", FULL, "told 5", 0, "fault", NONE, "'w", 1, "insert 0", FULL, "'w", 1, "insert 41", UNKNOWN,
            "told 5", 1, "told 18", 2, "take 0", 2, "insert 0", 3, "told 0", 40, "word 0 4", 'w', "word 39 4", 'm');
        due.row(new Run("'" + "a ".repeat(39), "type", "'m"), "insert 0", 3, "word 0 4", 'm', "word 39 4", 'a', "'b", 1, "insert 40", FULL,
            "undo 1", 39, "'b", 1, "insert 39", 2, "word 39 4", 'b');
    }

    /** Promise 11: "UNKNOWN." */
    private static void takeBounds() {
        Run run = new Run("'i mm o", "type");
        due.row(run, "take -1", UNKNOWN, "take 3", UNKNOWN, "take 2147483647", UNKNOWN, "take -2147483648", UNKNOWN, "told 18", 1,
            "take 2", 2, "take 2", UNKNOWN, "take 0", 1, "take 1", UNKNOWN, "word 0 0", 6, "take 0", 6, "take 0", UNKNOWN, "told 0", 0,
            "told 6", 0, "told 7", 0, "told 18", 4);
        Run full = new Run(FORTY, "type", "'mnop", "'q");
        due.row(full, "take 40", UNKNOWN, "take 39", 2, "told 0", 39, "take 39", UNKNOWN, "take 0", 2, "told 0", 38, "told 5", 5);
    }

    /** Promise 12: "MEASURE (1 .. 200)" */
    private static void measureBounds() {
        Run run = new Run("'aaa", "type");
        due.row(run, "measure 0", OUTSIDE, "measure -1", OUTSIDE, "measure 201", OUTSIDE, "measure 2147483647", OUTSIDE,
            "measure -2147483648", OUTSIDE, "told 1", 30, "told 18", 1, "measure 1", 25, "told 1", 1, "measure 200", 194 * 194,
            "told 1", 200, "measure 199", 193 * 193, "measure 2", 16, "told 18", 5);
    }

    /** Promise 13: "LAW (0 .. 4)" */
    private static void lawBounds() {
        Run run = new Run("'aaa", "type", "measure 11");
        due.row(run, "rule -1", OUTSIDE, "rule 5", OUTSIDE, "rule 2147483647", OUTSIDE, "rule -2147483648", OUTSIDE, "told 2", 0, "told 18", 2,
            "rule 4", 22, "told 2", 4, "rule 3", 1, "rule 2", 5, "rule 1", 5, "rule 0", 25, "told 2", 0, "told 18", 7);
    }

    /** Promise 14: "FEE (0 .. 99)" */
    private static void feeBounds() {
        Run run = new Run("'aaa", "type", "measure 6");
        due.row(run, "fee -1", OUTSIDE, "fee 100", OUTSIDE, "fee 2147483647", OUTSIDE, "fee -2147483648", OUTSIDE, "told 3", 0, "told 18", 2,
            "fee 99", 99, "told 3", 99, "fee 98", 98, "fee 1", 1, "fee 0", 0, "told 3", 0, "told 18", 6);
    }

    /** Promise 15: "The LAST LINE is FREE, or not" */
    private static void freeEitherWay() {
        Run run = new Run("'aaa", "type", "measure 10");
        due.row(run, "free 0", 16, "told 4", 0, "free 1", 0, "told 4", 1, "free 1", 0, "told 4", 1, "free 0", 16, "told 4", 0, "told 18", 6);
        due.row(new Run(), "free 1", 0, "told 4", 1, "free 0", 0, "measure 1", 0, "rule 4", 0, "fee 99", 0);
    }

    /** Promise 16: "n times BY DRAWS (1 .. 16)"; what is refused draws nothing */
    private static void driftBounds() {
        Run run = new Run("seed 41");
        due.row(run, "drift 0", OUTSIDE, "drift -1", OUTSIDE, "drift 17", OUTSIDE, "drift 2147483647", OUTSIDE, "drift -2147483648", OUTSIDE,
            "told 0", 0, "told 18", 0, "seed 41", 41, "drift 1", 1, "told 18", 1, "drift 16", 17, "told 18", 16);
        due.isText("17 draws", run.text(), String.join(" ", new Draws(41).times(17)));
    }

    /** "with fewer than 40 WORDS it is PUT IN behind all; else a DRAW of 40: the WORD there becomes it" */
    private static void driftToForty() {
        for (int seed : new int[] {0, 1, 7, 65536, 1000000007, 2147483646, 2147483647}) {
            List<String> calls = List.of("seed " + seed, "drift 16", "drift 16", "drift 7");
            Draws draws = new Draws(seed);
            isDrawn(calls, draws, 39, seed);
            List<String> forty = Run.with(calls, "drift 1");
            isDrawn(forty, draws, 1, seed);
            List<String> more = Run.with(forty, "drift 1");
            isDrawn(more, draws, 1, seed);
            isDrawn(Run.with(more, "drift 16"), draws, 16, seed);
            // One call goes from 31 words past 40.
            isDrawn(List.of("seed " + seed, "drift 15", "drift 16", "drift 16"), new Draws(seed), 47, seed);
        }
        due.row(new Run("drift 16", "drift 16"), "drift 7", 39, "drift 1", 40, "drift 1", 40, "drift 16", 40, "told 18", 16);
    }

    private static void isDrawn(List<String> calls, Draws draws, int times, int seed) {
        String want = String.join(" ", draws.times(times));
        due.isText("seed " + seed + ", " + calls, new Run(calls).text(), want);
        due.is("the seed behind " + calls, new Run(calls).call("seed 0"), (int) draws.seed);
    }

    /** "it becomes it times 1103515245 and 12345, left over by 2 to the 31": worked out by hand for the ends of its bounds. */
    private static void drawsLeftOver() {
        // From 0: 12345 (0: one letter), 1406932606 (21468, left over by 26: 18).
        due.row(new Run(), "drift 1", 1, "word 0 1", 1, "word 0 4", 's', "seed 0", 1406932606);
        // From 1 less than 2 to the 31: 12345 less 1103515245, left over: 1043980748 (15929, left over by 12: 5).
        due.row(new Run("seed 2147483647"), "drift 1", 1, "word 0 1", 6);
        due.row(new Run("seed 2147483647"), "seed 0", 2147483647, "drift 1", 1, "seed 9", 1406932606);
    }

    /** The draws once more, by the document's words. */
    private static final class Draws {
        long seed;
        private final List<String> words = new ArrayList<>();

        Draws(long seed) {
            this.seed = seed;
        }

        private int of(int n) {
            seed = (seed * 1103515245L + 12345L) % (1L << 31);
            return (int) (seed / 65536 % n);
        }

        List<String> times(int n) {
            for (int i = 0; i < n; i++) {
                int letters = of(12) + 1;
                StringBuilder word = new StringBuilder();
                for (int at = 0; at < letters; at++) {
                    word.append((char) ('a' + of(26)));
                }
                if (words.size() < 40) {
                    words.add(word.toString());
                } else {
                    words.set(of(40), word.toString());
                }
            }
            return words;
        }
    }

    /** Promise 17: "The n latest (1 .. 16) .. OUTSIDE, NOT: not so many." */
    private static void undoBounds() {
        Run run = new Run("'aaa", "type", "measure 9", "measure 8");
        due.row(run, "undo 0", OUTSIDE, "undo -1", OUTSIDE, "undo 17", OUTSIDE, "undo 2147483647", OUTSIDE, "undo -2147483648", OUTSIDE,
            "undo 4", NOT, "undo 16", NOT, "told 18", 3, "told 1", 8, "undo 3", 0, "told 18", 0, "told 1", 30, "undo 1", NOT, "undo 0", OUTSIDE);
        due.row(new Run(), "undo 1", NOT, "undo 16", NOT, "undo 17", OUTSIDE);
        // All at once is as one by one.
        due.same("three at once",
            Everything.behind(List.of("measure 9", "'a", "type", "fee 3", "free 1", "undo 3")),
            Everything.behind(List.of("measure 9", "'a", "type", "fee 3", "free 1", "undo 1", "undo 1", "undo 1")));
    }

    /** "(16 at most are kept)" */
    private static void undoKeepsSixteen() {
        Run run = new Run();
        for (int m = 1; m <= 15; m++) {
            run.call("measure", m, 0, 0);
        }
        due.row(run, "told 18", 15, "undo 16", NOT, "measure 16", 0, "told 18", 16, "measure 17", 0, "told 18", 16, "undo 16", 0, "told 1", 1,
            "told 18", 0, "undo 1", NOT);
        for (int m = 1; m <= 100; m++) {
            run.call("measure", m, 0, 0);
        }
        for (int left = 15; left >= 0; left--) {
            due.row(run, "undo 1", 0, "told 18", left, "told 1", 100 - 16 + left);
        }
        due.row(run, "undo 1", NOT, "told 1", 84, "fee 5", 0, "told 18", 1, "undo 1", 0, "told 3", 0, "told 1", 84);
        // Deeds behind undone ones take their place.
        due.row(run, "measure 1", 0, "measure 2", 0, "measure 3", 0, "undo 2", 0, "measure 4", 0, "told 18", 2, "undo 1", 0, "told 1", 1,
            "undo 1", 0, "told 1", 84);
    }

    /** "each of the times BY DRAWS" is a deed; "THE SEED stays" */
    private static void undoOfDrift() {
        Run run = new Run("seed 5", "drift 16", "measure 9");
        due.row(run, "told 18", 16, "undo 1", 16, "undo 15", 1, "told 18", 0, "undo 1", NOT);
        due.isText("the first that was drawn", run.text(), new Draws(5).times(1).get(0));
        Draws draws = new Draws(5);
        draws.times(16);
        due.is("the seed stays", run.call("seed 0"), (int) draws.seed);
        // Drawn into 40 words, one is as it was again.
        List<String> forty = List.of("seed 8", "drift 16", "drift 16", "drift 8");
        String was = new Run(forty).text();
        due.isText("undone at 40", new Run(Run.with(forty, "drift 3", "undo 3")).text(), was);
        due.isText("some undone at 40", new Run(Run.with(forty, "drift 3", "undo 2")).text(), new Run(Run.with(forty, "drift 1")).text());
        due.row(new Run(forty), "told 18", 16, "drift 3", 40, "undo 16", 40 - 13, "told 18", 0);
    }

    /** type(), change(), insert(), take(), measure(), rule(), fee(), free(), each time BY DRAWS; no other call is one. */
    private static void whatIsADeed() {
        Run run = new Run();
        due.row(run, "type", 0, "told 18", 1, "measure 30", 0, "told 18", 2, "rule 0", 0, "told 18", 3, "fee 0", 0, "told 18", 4,
            "free 0", 0, "told 18", 5, "'a", 1, "told 18", 5, "insert 0", 2, "told 18", 6, "'a", 1, "change 0", 2, "told 18", 7,
            "take 0", 2, "told 18", 8, "drift 2", 2, "told 18", 10);
        due.row(run, "seed 4", new Run("drift 2").call("seed 0"), "see 0 1", 1, "write 0 0", 1, "tear", 2, "told 12", 200, "best 1 9 0",
            new Run("drift 2").call("best 1 9 0"), "with 3", NONE, "first 2", OUTSIDE, "'?", 1, "type", -11, "'a b", 3, "change 0", NOT,
            "told 18", 10, "undo 10", 0, "told 18", 0);
    }

    /** "all of sections 1, 2 is as ahead of them" */
    private static void undoEachDeed() {
        List<String> before = List.of("'one two three", "type", "measure 11", "rule 2", "fee 4", "free 1", "keep 0", "see 1 1", "write 0 0");
        List<String> asItWas = Everything.behind(before);
        String[][] deeds = {
            {"'xyz", "change 2"}, {"'xyz", "insert 0"}, {"'xyz", "insert 3"}, {"take 0"}, {"take 2"}, {"measure 200"}, {"measure 11"},
            {"rule 0"}, {"fee 99"}, {"free 0"}, {"free 1"}, {"'a b", "type"}, {"type"}};
        for (String[] deed : deeds) {
            List<String> calls = Run.with(before, deed);
            due.same("undone " + String.join(", ", deed), Everything.behind(Run.with(calls, "undo 1")), asItWas);
        }
        List<String> all = new ArrayList<>(before);
        for (String[] deed : deeds) {
            all.addAll(List.of(deed));
        }
        due.is("all of them", new Run(all).call("told 18"), 13);
        due.same("all undone", Everything.behind(Run.with(all, "undo 13")), asItWas);
    }
}

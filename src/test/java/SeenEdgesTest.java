import java.util.ArrayList;
import java.util.HashSet;
import java.util.List;
import java.util.Set;

/** The edges of promises 23 to 25: 6 that are SEEN, 20 entries, ENDS that come and go, LOOKS that are alike. */
public final class SeenEdgesTest {
    private static final Due due = new Due("SeenEdgesTest");
    private static final int NONE = EvenBreaks.NONE;
    private static final int UNKNOWN = EvenBreaks.UNKNOWN;
    private static final int OUTSIDE = EvenBreaks.OUTSIDE;
    private static final int FULL = EvenBreaks.FULL;

    public static void main(String[] args) {
        seeBounds();
        sixAreSeen();
        firstAndLastEnd();
        noneAndOneFit();
        endsThatGo();
        lookOfLikeOnes();
        lookThatPartsNothing();
        seenWithAllElseAsNow();
        writeBounds();
        twentyEntries();
        lineThatIsNot();
        firstThatIsWrong();
        tearBoth();
        due.close();
    }

    /** Promise 23: "UNKNOWN, FULL (6)" */
    private static void seeBounds() {
        Run run = new Run("'aaa bbb", "type");
        due.row(run, "see -1 1", UNKNOWN, "see 3 0", UNKNOWN, "see 2147483647 1", UNKNOWN, "see -2147483648 0", UNKNOWN, "told 11", 0,
            "see 0 1", 1, "see 2 0", 2, "told 11", 2);
        due.row(new Run(), "see 1 1", UNKNOWN, "see 0 0", 1);
        due.row(new Run("'" + "a ".repeat(40), "type"), "see 41 1", UNKNOWN, "see 40 0", 1, "told 12", 200, "see 40 1", 2, "told 12", 0);
    }

    private static void sixAreSeen() {
        Run run = new Run("'aaa bbb", "type");
        // The same six times are six; a refused 7th, which no measure fits, leaves those that fit.
        due.row(run, "see 1 0", 1, "see 1 0", 2, "see 1 0", 3, "see 1 0", 4, "see 1 0", 5, "told 11", 5, "see 1 0", 6, "told 12", 192,
            "see 1 1", FULL, "told 11", 6, "told 12", 192, "see 0 0", FULL, "told 12", 192, "see 3 1", UNKNOWN, "tear", 6, "see 1 1", 1,
            "told 12", 8);
    }

    /** A line begins at END 0 by every measure, and by none at the last. */
    private static void firstAndLastEnd() {
        due.row(new Run("'aaa bbb", "type"), "see 0 1", 1, "told 12", 200, "see 0 0", 2, "told 12", 0);
        due.row(new Run("'aaa bbb", "type"), "see 0 0", 1, "told 12", 0, "told 13", NONE, "told 14", NONE, "told 15", NONE);
        due.row(new Run("'aaa bbb", "type"), "see 2 0", 1, "told 12", 200, "told 13", 1, "told 14", 200, "see 2 1", 2, "told 12", 0);
        due.row(new Run("'aaa", "type"), "told 15", NONE, "see 0 1", 1, "see 1 0", 2, "told 12", 200, "told 15", NONE);
        due.row(new Run(), "told 12", 200, "see 0 0", 1, "told 12", 200, "see 0 1", 2, "told 12", 0, "told 13", NONE);
    }

    /** "how many; the least; the greatest; NONE"; SeenTest.edges has a text that 200 alone fits */
    private static void noneAndOneFit() {
        // Two words of 1 are apart by 1 alone: by 2 one line costs 1, two cost 2.
        Run run = new Run("'f f", "type", "see 1 1");
        due.row(run, "told 12", 1, "told 13", 1, "told 14", 1, "told 15", NONE, "see 1 0", 2, "told 12", 0, "told 13", NONE, "told 14", NONE,
            "told 15", NONE);
        due.row(new Run("'f f", "type", "see 1 0"), "told 12", 199, "told 13", 2, "told 14", 200, "told 15", NONE);
        due.row(new Run("'f f", "type"), "told 15", 1);
    }

    /** What is SEEN stays when WORDS go: at an END that is no longer there no LINE begins. */
    private static void endsThatGo() {
        String[] three = {"'aaa bbb ccc", "type"};
        long begin = beginsByMeasure(three).stream().filter(set -> set.contains(2)).count();
        Run run = new Run("'aaa bbb ccc", "type", "see 3 0", "see 2 1");
        due.is("some begin at 2", begin > 0 && begin < 200 ? 1 : 0, 1);
        due.row(run, "told 12", (int) begin, "take 0", 6, "told 12", 0, "take 0", 6, "told 12", 0, "undo 2", 3, "told 12", (int) begin,
            "type", 0, "told 11", 2, "told 12", 0);
        due.row(new Run("'aaa bbb ccc", "type", "see 3 0", "see 2 0", "type"), "told 12", 200, "told 13", 1, "told 14", 200, "told 15", NONE);
    }

    /** LOOK: "the greater part is least; of like ones the least" */
    private static void lookOfLikeOnes() {
        int like = 0;
        for (int seed = 1; seed <= 60; seed++) {
            String[] calls = {"seed " + seed, "drift " + (2 + seed % 9), "rule " + seed % 5, "fee " + seed % 3 * 20, "free " + seed % 2};
            List<Set<Integer>> left = beginsByMeasure(calls);
            Run run = new Run(calls);
            int words = run.call("told 0");
            for (int seen = 0; seen < 6; seen++) {
                int[] greater = greaterParts(left, words);
                int least = left.size();
                int at = NONE;
                int best = 0;
                for (int e = 0; e <= words; e++) {
                    best = greater[e] < least ? 1 : greater[e] == least ? best + 1 : best;
                    at = greater[e] < least ? e : at;
                    least = Math.min(least, greater[e]);
                }
                like += at != NONE && best > 1 ? 1 : 0;
                due.row(run, "told 12", left.size(), "told 15", at);
                int look = at == NONE ? 0 : at;
                boolean begins = at == NONE || (seed + seen) % 2 == 0;
                due.is("seen", run.call("see", look, begins ? 1 : 0, 0), seen + 1);
                left.removeIf(set -> set.contains(look) != begins);
            }
        }
        due.is("some looks were alike", like > 0 ? 1 : 0, 1);
    }

    private static int[] greaterParts(List<Set<Integer>> all, int words) {
        int[] greater = new int[words + 1];
        for (int e = 0; e <= words; e++) {
            int part = 0;
            for (Set<Integer> set : all) {
                part += set.contains(e) ? 1 : 0;
            }
            greater[e] = Math.max(part, all.size() - part);
        }
        return greater;
    }

    /** Where lines begin by each measure, each of an object of its own. */
    private static List<Set<Integer>> beginsByMeasure(String[] calls) {
        List<Set<Integer>> all = new ArrayList<>();
        for (int m = 1; m <= 200; m++) {
            Run run = new Run(calls);
            run.call("measure", m, 0, 0);
            int lines = run.call("told 7");
            Set<Integer> begins = new HashSet<>();
            for (int k = 0; k < lines; k++) {
                begins.add(run.call("line", k, 0, 0));
            }
            all.add(begins);
        }
        return all;
    }

    /** "NONE: none parts them": all alike, one left, none left, no words */
    private static void lookThatPartsNothing() {
        due.row(new Run(), "told 15", NONE);
        due.row(new Run("'a", "type"), "told 15", NONE);
        due.row(new Run("'f f", "type", "see 1 1"), "told 12", 1, "told 15", NONE);
        due.row(new Run("'f f", "type", "see 2 1"), "told 12", 0, "told 15", NONE);
        // By law 1 and the fee 99 all words are on one line by every measure.
        due.row(new Run("'f f f", "type", "rule 1", "fee 99"), "told 12", 200, "told 15", NONE, "see 1 0", 1, "told 12", 200, "told 15", NONE);
    }

    /** "with an unknown MEASURE 1 to 200 (all else as now)" */
    private static void seenWithAllElseAsNow() {
        Run run = new Run("'aaa bbb", "type", "see 1 1");
        due.row(run, "told 12", 8, "measure 200", 187 * 187, "told 12", 8, "measure 1", 50, "told 12", 8, "fee 99", 243, "told 12", 0,
            "fee 0", 50, "told 12", 8, "rule 2", 200, "told 12", twoLinesByLaw2(), "free 1", 200, "told 11", 1);
        due.row(run, "keep 0", 1, "told 11", 1, "'x", 1, "type", 1, "told 12", 0, "goBack 0", 1, "told 11", 1);
    }

    /** Apart 2 * (m - 6), or 20 times what is too many; together m - 13, or 20 times that: apart up to 12. */
    private static int twoLinesByLaw2() {
        int count = 0;
        for (int m = 1; m <= 200; m++) {
            int apart = m >= 6 ? 2 * (m - 6) : 40 * (6 - m);
            int together = m >= 13 ? m - 13 : 20 * (13 - m);
            count += apart < together ? 1 : 0;
        }
        return count;
    }

    /** Promise 24: "(LINE 0 .. 39; an END, or NONE)", "UNKNOWN (the END), OUTSIDE, FULL (20)" */
    private static void writeBounds() {
        Run run = new Run("'aaa bbb", "type");
        due.row(run, "write -1 0", OUTSIDE, "write 40 0", OUTSIDE, "write 2147483647 0", OUTSIDE, "write -2147483648 -1", OUTSIDE,
            "write 0 3", UNKNOWN, "write 0 -2", UNKNOWN, "write 0 2147483647", UNKNOWN, "write 0 -2147483648", UNKNOWN, "write 40 3", UNKNOWN,
            "write -1 -2", UNKNOWN, "told 16", 0, "write 0 0", 1, "write 39 -1", 2, "told 17", NONE, "write 0 2", 3, "told 17", 2, "told 16", 3);
        due.row(new Run(), "write 0 1", UNKNOWN, "write 0 -1", 1, "told 17", NONE, "write 0 0", 2, "told 17", 1);
        due.row(new Run("'" + "a ".repeat(40), "type"), "write 0 41", UNKNOWN, "write 0 40", 1);
    }

    private static void twentyEntries() {
        Run run = new Run("'aaa bbb", "type");
        for (int i = 1; i <= 20; i++) {
            due.is("entry " + i, run.call("write 0 0"), i);
        }
        // The refused 21st would be wrong.
        due.row(run, "write 0 1", FULL, "told 16", 20, "told 17", NONE, "write 0 -1", FULL, "write 0 3", UNKNOWN, "write 40 0", OUTSIDE,
            "told 16", 20, "told 17", NONE, "measure 6", 0, "told 17", NONE, "tear", 20, "write 0 1", 1, "told 17", 0);
        Run last = new Run("'aaa bbb", "type");
        for (int i = 1; i <= 19; i++) {
            last.call("write 0 0");
        }
        due.row(last, "told 17", NONE, "write 1 1", 20, "told 17", 19, "measure 6", 0, "told 17", NONE);
    }

    /** "(an END; NONE: there is none)" */
    private static void lineThatIsNot() {
        due.row(new Run("'aaa bbb", "type"), "write 1 -1", 1, "told 17", NONE, "measure 6", 0, "told 17", 0, "undo 1", 2, "told 17", NONE);
        due.row(new Run("'aaa bbb", "type"), "write 1 1", 1, "told 17", 0, "measure 6", 0, "told 17", NONE);
        due.row(new Run("'aaa bbb", "type"), "write 0 -1", 1, "told 17", 0, "type", 0, "told 17", NONE);
        // 40 lines of a word each: LINE 39 begins at 39; with 39 words there is none.
        Run forty = new Run("'" + "a ".repeat(40), "type", "measure 2");
        due.row(forty, "write 39 39", 1, "told 17", NONE, "write 39 -1", 2, "told 17", 1, "take 39", 2, "told 17", 0, "tear", 2,
            "write 39 -1", 1, "told 17", NONE, "write 38 38", 2, "told 17", NONE, "write 38 39", 3, "told 17", 2);
        // No LINE begins at the last END, nor one at an END that is gone.
        due.row(new Run("'aaa bbb", "type", "measure 6"), "write 2 2", 1, "told 17", 0, "tear", 1, "write 1 1", 1, "told 17", NONE, "take 1", 6,
            "told 17", 0, "undo 1", 2, "told 17", NONE);
    }

    /** WRONG: "the first that is otherwise now" */
    private static void firstThatIsWrong() {
        Run run = new Run("'aaa bbb", "type");
        due.row(run, "write 0 0", 1, "write 1 1", 2, "write 1 -1", 3, "write 0 1", 4, "told 17", 1, "measure 6", 0, "told 17", 2, "type", 0,
            "told 17", 0, "undo 1", 2, "told 17", 2, "undo 1", 2, "told 17", 1);
    }

    /** Promise 25: "Nothing SEEN, no BOOK: how much both had." */
    private static void tearBoth() {
        Run run = new Run("'aaa bbb", "type", "measure 9");
        due.row(run, "tear", 0, "see 1 1", 1, "tear", 1, "write 0 1", 1, "tear", 1, "tear", 0);
        for (int i = 1; i <= 20; i++) {
            run.call("write 1 1");
            run.call("see 1 1");
        }
        due.row(run, "told 11", 6, "told 16", 20, "told 12", 8, "told 17", 0, "tear", 26, "told 11", 0, "told 16", 0, "told 12", 200,
            "told 17", NONE, "told 15", 1, "see 1 0", 1, "write 0 0", 1, "told 12", 192, "told 17", NONE, "tear", 2);
        due.row(new Run(), "see 0 1", 1, "told 12", 0, "tear", 1, "told 12", 200, "see 0 0", 1, "tear", 1, "'a", 1, "type", 1, "told 12", 200);
        List<String> calls = List.of("'aaa bbb", "type", "measure 9", "'ab");
        due.same("torn", Everything.behind(Run.with(calls, "see 1 1", "see 2 0", "write 3 1", "tear")), Everything.behind(calls));
    }
}

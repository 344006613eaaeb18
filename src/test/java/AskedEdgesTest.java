import java.util.HashSet;
import java.util.List;
import java.util.Set;

/** The edges of promises 18 to 22: ENDS out of order, like costs, as many LINES as WORDS, the ends of the measures. */
public final class AskedEdgesTest {
    private static final Due due = new Due("AskedEdgesTest");
    private static final int NONE = EvenBreaks.NONE;
    private static final int UNKNOWN = EvenBreaks.UNKNOWN;
    private static final int OUTSIDE = EvenBreaks.OUTSIDE;
    private static final String FORTY = "'" + "a ".repeat(40);

    public static void main(String[] args) {
        costBounds();
        firstBounds();
        evenAndOddWhenAlike();
        evenWantsFourEnds();
        figuresOf41();
        evenAsItIsNow();
        knownBounds();
        runsOfOwners();
        withBounds();
        withNoFewerAndNoMore();
        bestBounds();
        bestOfLikeOnes();
        bestIsAsMeasured();
        askedChangesNothing();
        due.close();
    }

    /** Promise 18: "UNKNOWN (also j not later)" */
    private static void costBounds() {
        Run run = new Run("'aaa bb c", "type");
        due.row(run, "cost 0 1", 576, "cost 2 3", 784, "cost 0 3", 256, "cost 0 0", UNKNOWN, "cost 3 3", UNKNOWN, "cost 1 0", UNKNOWN,
            "cost 3 0", UNKNOWN, "cost -1 1", UNKNOWN, "cost 0 4", UNKNOWN, "cost 3 4", UNKNOWN, "cost -1 4", UNKNOWN, "cost 4 5", UNKNOWN,
            "cost -2147483648 2147483647", UNKNOWN, "cost 0 2147483647", UNKNOWN, "cost -1 0", UNKNOWN);
        due.row(new Run(FORTY, "type", "rule 1"), "cost 0 40", 89, "cost 39 40", 28, "cost 0 41", UNKNOWN, "cost 40 40", UNKNOWN, "cost 40 41",
            UNKNOWN);
        due.row(new Run(), "cost 0 0", UNKNOWN, "cost 0 1", UNKNOWN);
    }

    /** Promise 19: "(what 0) .. (1); NONE. OUTSIDE." */
    private static void firstBounds() {
        Run run = new Run("'a b c", "type");
        due.row(run, "first 0", NONE, "first 1", four(0, 1, 2, 3), "first 2", OUTSIDE, "first -1", OUTSIDE, "first 2147483647", OUTSIDE,
            "first -2147483648", OUTSIDE);
    }

    private static int four(int i, int k, int j, int l) {
        return (i + 1) * 68921 + (k + 1) * 1681 + (j + 1) * 41 + l + 1;
    }

    /** "no more than", "no less": like ones are both */
    private static void evenAndOddWhenAlike() {
        // By law 1 all lines fit, and so what each word takes of the slack is the same everywhere.
        due.row(new Run("'a b c d e", "type", "rule 1"), "told 8", 1, "told 9", 1, "first 0", NONE, "first 1", NONE);
        // None fits: likewise.
        due.row(new Run("'aa aa aa aa", "type", "rule 2", "measure 1"), "told 8", 1, "told 9", 1);
        due.row(new Run("'aa aa aa aa", "type", "rule 3", "measure 1"), "told 8", 1, "told 9", 1);
        // By 14 all three fit on a line, by 13 they are 1 too wide.
        due.row(new Run("'aa aa aa", "type", "rule 1", "measure 14"), "told 8", 1, "told 9", 1, "measure 13", 1, "told 8", 1, "told 9", 0,
            "first 1", four(0, 1, 2, 3), "first 0", NONE);
    }

    /** i below k below j below l: there must be 3 WORDS. */
    private static void evenWantsFourEnds() {
        for (int law = 0; law <= 4; law++) {
            due.row(new Run("'a b", "type", "rule " + law, "measure 4"), "told 8", 1, "told 9", 1, "first 0", NONE, "first 1", NONE);
            due.row(new Run("'a", "type", "rule " + law), "told 8", 1, "told 9", 1, "first 0", NONE, "first 1", NONE);
            due.row(new Run("rule " + law), "told 8", 1, "told 9", 1, "first 0", NONE, "first 1", NONE);
        }
        due.row(new Run("'a b c", "type", "rule 4"), "told 8", 0, "first 0", four(0, 1, 2, 3), "told 9", 1, "first 1", NONE);
    }

    /** "each 1 more, in figures of 41 (i the highest)": the last END of 40 WORDS has the figure 41. */
    private static void figuresOf41() {
        // By law 1 all fit and are alike, but those to the last END, which are free.
        Run run = new Run("'" + "f ".repeat(40), "type", "rule 1", "measure 200", "free 1");
        due.row(run, "first 0", NONE, "first 1", 1 * 68921 + 2 * 1681 + 3 * 41 + 41, "take 39", 1, "first 1", four(0, 1, 2, 39));
        // Of four words all fit but the line of all four: 3 with 0 is like, 4 is not.
        due.row(new Run("'aa aa aa aa", "type", "rule 2", "measure 14"), "first 1", four(0, 1, 2, 4), "first 0", NONE);
    }

    /** "(as it is now, with FEE, MEASURE, LAST LINE)" */
    private static void evenAsItIsNow() {
        Run run = new Run("'aa aa aa", "type", "rule 1", "measure 14");
        due.row(run, "told 9", 1, "free 1", 0, "told 9", 0, "free 0", 0, "told 9", 1, "measure 13", 1, "told 9", 0, "measure 14", 0, "told 9", 1);
        due.row(run, "fee 99", 99, "told 8", 1, "told 9", 1, "rule 4", 99, "told 8", 0, "undo 2", 3, "told 8", 1, "take 0", 4, "told 8", 1);
    }

    /** Promise 20: "UNKNOWN (also t not ahead of it)"; "t below the END" */
    private static void knownBounds() {
        Run run = new Run("'aaa bbb ccc", "type", "measure 13", "rule 2");
        due.row(run, "known 3 2", 1, "known 3 1", 1, "known 3 0", 0, "known 3 3", UNKNOWN, "known 3 4", UNKNOWN, "known 4 3", UNKNOWN,
            "known 4 4", UNKNOWN, "known 1 0", 0, "known 1 1", UNKNOWN, "known 0 0", UNKNOWN, "known 0 -1", UNKNOWN, "known 1 -1", UNKNOWN,
            "known -1 -2", UNKNOWN, "known 2147483647 0", UNKNOWN, "known 3 -2147483648", UNKNOWN, "known 1 2", UNKNOWN);
        Run forty = new Run(FORTY, "type", "measure 2");
        due.row(forty, "known 40 39", 39, "known 40 0", 0, "known 40 40", UNKNOWN, "known 41 40", UNKNOWN, "known 40 20", 20);
        // With all ahead of it known an END has its OWNER.
        Run drawn = new Run("seed 12", "drift 16", "drift 16", "measure 44", "rule 4");
        for (int e = 1; e <= 32; e++) {
            due.is("known to all ahead of " + e, drawn.call("known", e, e - 1, 0), drawn.call("end", e, 1, 0));
        }
    }

    /** "in how many runs of like OWNERS all ENDS behind t lie, KNOWN to t" */
    private static void runsOfOwners() {
        // By law 2 and 13: known to 1 END 2 is 0's, END 3 is 1's.
        due.row(new Run("'aaa bbb ccc", "type", "measure 13", "rule 2"), "end 0 2", 1, "end 1 2", 2, "end 2 2", 1, "end 3 2", 0);
        // An OWNER of two runs that do not meet counts twice.
        int twice = 0;
        for (int seed = 1; seed <= 40; seed++) {
            Run run = new Run("seed " + seed, "drift 12", "rule 3", "measure " + (60 + seed));
            for (int t = 0; t <= 12; t++) {
                int runs = 0;
                int before = NONE;
                Set<Integer> owners = new HashSet<>();
                for (int e = t + 1; e <= 12; e++) {
                    int owner = run.call("known", e, t, 0);
                    runs += owner != before ? 1 : 0;
                    owners.add(owner);
                    before = owner;
                }
                due.is("seed " + seed + ", runs at " + t, run.call("end", t, 2, 0), runs);
                twice += runs > owners.size() ? 1 : 0;
            }
        }
        due.is("an owner has had two runs", twice > 0 ? 1 : 0, 1);
    }

    /** Promise 21: "WITH k LINES (1 .. 40); NONE. OUTSIDE." */
    private static void withBounds() {
        Run run = new Run("'aaa bbb ccc", "type", "measure 13");
        due.row(run, "with 0", OUTSIDE, "with -1", OUTSIDE, "with 41", OUTSIDE, "with 2147483647", OUTSIDE, "with -2147483648", OUTSIDE,
            "with 1", 49, "with 2", 49, "with 3", 147, "with 4", NONE, "with 40", NONE);
        due.row(new Run("'" + "a ".repeat(39), "type", "measure 2"), "with 39", 0, "with 40", NONE, "with 41", OUTSIDE);
        due.row(new Run(FORTY, "type", "measure 2"), "with 39", 9, "with 40", 0, "with 41", OUTSIDE, "with 1", 117 * 117);
        due.row(new Run(), "with 1", NONE, "with 0", OUTSIDE, "with 40", NONE, "with 41", OUTSIDE);
        due.row(new Run("'aaa", "type", "measure 6", "fee 99"), "with 1", 99, "with 2", NONE, "free 1", 99, "with 1", 99);
    }

    /** "just k LINES", though more or fewer were cheaper */
    private static void withNoFewerAndNoMore() {
        Run run = new Run("'aaa bbb ccc ddd", "type", "measure 6");
        due.row(run, "told 7", 4, "with 4", 0, "with 3", 49, "with 2", 98, "with 1", 21 * 21, "measure 27", 0, "told 7", 1, "with 1", 0,
            "with 4", 4 * 441, "with 2", 2 * 196, "with 3", 2 * 441 + 196, "fee 10", 10, "with 4", 4 * 451, "with 1", 10);
    }

    /** Promise 22: "OUTSIDE (a above b, too)"; measures are 1 .. 200 */
    private static void bestBounds() {
        Run run = new Run("'aaa", "type");
        due.row(run, "best 1 200 0", 6, "best 1 200 1", 0, "best 1 1 0", 1, "best 1 1 1", 25, "best 200 200 0", 200, "best 200 200 1", 194 * 194,
            "best 6 6 0", 6, "best 6 7 0", 6, "best 5 6 0", 6, "best 1 5 0", 5, "best 7 200 0", 7);
        due.row(run, "best 0 200 0", OUTSIDE, "best 1 201 0", OUTSIDE, "best 2 1 0", OUTSIDE, "best 200 1 1", OUTSIDE, "best 0 0 0", OUTSIDE,
            "best 201 201 0", OUTSIDE, "best 1 200 2", OUTSIDE, "best 1 200 -1", OUTSIDE, "best -1 -1 1", OUTSIDE, "best 0 1 1", OUTSIDE,
            "best 200 201 1", OUTSIDE, "best 2147483647 2147483647 0", OUTSIDE, "best -2147483648 -2147483648 0", OUTSIDE,
            "best 1 2147483647 0", OUTSIDE, "best -2147483648 200 1", OUTSIDE);
    }

    /** "of like ones the least" */
    private static void bestOfLikeOnes() {
        // By law 3 a slack of 0 to 4 costs nothing: 6 to 10, and 13 to 17 with both on a line.
        Run run = new Run("'aaa bbb", "type", "rule 3");
        due.row(run, "best 1 200 0", 6, "best 7 200 0", 7, "best 10 200 0", 10, "best 11 200 0", 13, "best 14 17 0", 14, "best 17 200 0", 17,
            "best 18 200 0", 18, "best 18 200 1", 1, "fee 1", 4, "best 1 200 0", 13, "best 1 200 1", 1);
        // Free: from 13 on all cost nothing, but so does 6.
        due.row(new Run("'aaa bbb", "type", "free 1"), "best 1 200 0", 6, "best 7 200 0", 13, "best 150 200 0", 150, "best 150 200 1", 0);
        due.row(new Run("fee 9"), "best 1 200 0", 1, "best 1 200 1", 0, "best 77 200 0", 77, "best 200 200 1", 0);
    }

    /** "WITH MEASURE m: TOTAL of the last END then", with all else as now */
    private static void bestIsAsMeasured() {
        for (int law = 0; law <= 4; law++) {
            String[] calls = {"seed 77", "drift 9", "rule " + law, "fee " + 13 * law, "free " + law % 2};
            Run asked = new Run(calls);
            Run measured = new Run(calls);
            for (int m = 1; m <= 200; m++) {
                due.is("law " + law + ", measure " + m, asked.call("best", m, m, 1), measured.call("measure", m, 0, 0));
            }
            due.is("the measure stays", asked.call("told 1"), 30);
        }
    }

    /** "ASKED, nothing changes by it." */
    private static void askedChangesNothing() {
        List<String> calls = List.of("seed 4", "drift 16", "drift 7", "measure 50", "keep 1", "rule 4", "free 1", "see 3 1",
            "write 1 3", "'ab", "change 99");
        List<String> asItWas = Everything.behind(calls);
        String[] asked = {"cost 0 23", "first 0", "first 1", "known 23 11", "with 1", "with 23", "with 40", "best 1 200 0", "best 3 9 1", "told 8",
            "told 9", "told 10", "told 12", "told 13", "told 14", "told 15", "told 17", "word 11 3", "word 22 3", "end 5 2", "line 0 3", "fault"};
        due.same("asked all", Everything.behind(Run.with(calls, asked)), asItWas);
        for (String one : asked) {
            due.same("asked " + one, Everything.behind(Run.with(calls, one)), asItWas);
        }
    }
}

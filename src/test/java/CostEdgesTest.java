import java.util.ArrayList;
import java.util.List;

/** The edges of section 2: SLACK at and about 0 by every LAW, the FEE, the FREE LAST LINE, like OWNERS, the widest lines. */
public final class CostEdgesTest {
    private static final Due due = new Due("CostEdgesTest");
    private static final int NONE = EvenBreaks.NONE;
    private static final int UNKNOWN = EvenBreaks.UNKNOWN;

    public static void main(String[] args) {
        atFirst();
        slackAboutNothing();
        everySlack();
        freeAboutNothing();
        freeIsTheLastAlone();
        freeMoves();
        feeOfEachLine();
        gapsBetweenAlone();
        likeOwners();
        widest();
        due.close();
    }

    /** "MEASURE (.. 30 at first)", "FEE (.. 0 at first)", "LAW (0 at first)", FREE "(it is not at first)" */
    private static void atFirst() {
        due.row(new Run("'aaa", "type"), "told 1", 30, "told 2", 0, "told 3", 0, "told 4", 0, "cost 0 1", 24 * 24);
    }

    /** By each law, of a word of 6: "cut" and "below 0". */
    private static void slackAboutNothing() {
        int[] slacks = {-5, -2, -1, 0, 1, 2, 4, 5, 9, 10, 194};
        int[][] want = {
            {25, 4, 1, 0, 1, 4, 16, 25, 81, 100, 37636},
            {5, 2, 1, 0, 1, 2, 4, 5, 9, 10, 194},
            {100, 40, 20, 0, 1, 2, 4, 5, 9, 10, 194},
            {105, 102, 101, 0, 0, 0, 0, 1, 1, 2, 38},
            {5, 2, 1, 0, 10, 14, 20, 22, 30, 31, 139},
        };
        for (int law = 0; law <= 4; law++) {
            Run run = new Run("'aaa", "type", "rule " + law);
            for (int i = 0; i < slacks.length; i++) {
                due.is("law " + law + " slack " + slacks[i], run.call("measure", 6 + slacks[i], 0, 0), want[law][i]);
                due.is("its line", run.call("line 0 3"), want[law][i]);
            }
        }
    }

    /** Each SLACK of the narrowest word by every measure, FREE and not, with the least and the greatest FEE. */
    private static void everySlack() {
        for (int law = 0; law <= 4; law++) {
            for (int free = 0; free <= 1; free++) {
                int fee = 99 * ((law + free) % 2);
                Run run = new Run("'i", "type", "rule " + law, "free " + free, "fee " + fee);
                for (int m = 1; m <= 200; m++) {
                    int want = fee + (free == 1 ? 0 : costOf(law, m - 1));
                    due.is("law " + law + ", free " + free + ", measure " + m, run.call("measure", m, 0, 0), want);
                }
                Run wide = new Run("'mmmmmmmmmmmm", "type", "rule " + law, "free " + free, "fee " + fee);
                for (int m = 1; m <= 200; m++) {
                    int want = fee + (free == 1 && m >= 36 ? 0 : costOf(law, m - 36));
                    due.is("wide, law " + law + ", free " + free + ", measure " + m, wide.call("measure", m, 0, 0), want);
                }
            }
        }
    }

    private static int costOf(int law, int slack) {
        if (slack < 0) {
            return new int[] {slack * slack, -slack, -20 * slack, 100 - slack, -slack}[law];
        }
        int root = 0;
        for (int tried = 0; tried * tried <= 100 * slack; tried++) {
            root = tried;
        }
        return new int[] {slack * slack, slack, slack, (slack - slack % 5) / 5, root}[law];
    }

    /** "with SLACK 0 or more, costs FEE alone" */
    private static void freeAboutNothing() {
        int[] tight = {1, 1, 20, 101, 1};
        for (int law = 0; law <= 4; law++) {
            Run run = new Run("'aaa", "type", "fee 9", "rule " + law, "free 1");
            due.row(run, "measure 7", 9, "measure 6", 9, "measure 5", 9 + tight[law], "measure 200", 9, "cost 0 1", 9);
            due.row(run, "fee 0", 0, "told 6", 0, "fee 99", 99, "measure 5", 99 + tight[law], "free 0", 99 + tight[law]);
        }
    }

    /** "one that ends at the last END", wherever it begins, and no other */
    private static void freeIsTheLastAlone() {
        Run run = new Run("'aaa bbb ccc", "type", "rule 1", "free 1");
        due.row(run, "cost 0 1", 24, "cost 0 2", 17, "cost 1 2", 24, "cost 0 3", 0, "cost 1 3", 0, "cost 2 3", 0, "told 6", 0);
        due.row(run, "measure 20", 0, "cost 0 3", 0, "measure 19", 1, "cost 0 3", 1, "cost 1 3", 0, "cost 0 2", 6);
        // One line is 1 too wide; of two the first costs 6 or 13.
        due.row(run, "told 6", 1, "told 7", 1);
    }

    /** What is the last END moves with words put in and taken, and so does what is free. */
    private static void freeMoves() {
        Run run = new Run("'aaa bbb", "type", "rule 1", "free 1");
        due.row(run, "cost 0 2", 0, "cost 0 1", 24, "take 1", 6, "cost 0 1", 0, "'bbb", 3, "insert 1", 6, "cost 0 1", 24,
            "cost 0 2", 0, "drift 1", 3, "cost 0 2", 17, "undo 1", 2, "cost 0 2", 0, "free 0", 17, "undo 1", 2, "cost 0 2", 0);
    }

    /** "COST: FEE .. and" the rest, for each LINE; none for no LINE */
    private static void feeOfEachLine() {
        // By law 2 each word more on a line of 2 costs 60: more than its fee up to 59, less from 61 on.
        Run run = new Run("'" + "a ".repeat(40), "type", "measure 2", "rule 2");
        due.row(run, "told 6", 0, "told 7", 40, "fee 1", 40, "fee 59", 59 * 40, "told 7", 40, "line 39 3", 59, "end 1 0", 59);
        due.row(run, "fee 60", 60 * 40, "told 7", 1, "fee 61", 61 + 60 * 39, "told 7", 1, "fee 99", 99 + 60 * 39, "line 0 3", 99 + 60 * 39);
        due.row(run, "fee 0", 0, "told 7", 40);
        due.row(new Run("fee 99", "free 1", "measure 1"), "told 6", 0, "end 0 0", 0, "told 7", 0);
    }

    /** "1 for each gap between them": none ahead or behind, and one between two, however many blanks were typed */
    private static void gapsBetweenAlone() {
        Run run = new Run("'  aaa    bbb  c ", "type");
        due.row(run, "line 0 2", 16, "cost 0 1", 576, "cost 1 2", 576, "cost 0 2", 289, "cost 1 3", 21 * 21, "cost 0 3", 14 * 14,
            "cost 2 3", 28 * 28);
    }

    /** OWNER: "of like ones the least END; NONE of END 0" */
    private static void likeOwners() {
        // By 6 and law 1 a line of one costs the fee, one of two 7 more: like ones by the fee 7.
        Run run = new Run("'aaa bbb", "type", "measure 6", "rule 1", "fee 6");
        due.row(run, "end 2 1", 1, "told 7", 2, "end 2 0", 12, "fee 7", 14, "end 2 1", 0, "told 7", 1, "fee 8", 15, "end 2 1", 0);
        due.row(run, "end 0 1", NONE, "end 1 1", 0, "end 3 1", UNKNOWN);
        // Three of 6 by law 2 and 13: the last END costs 7 from 2 and from 1.
        due.row(new Run("'aaa bbb ccc", "type", "measure 13", "rule 2"), "end 3 0", 7, "end 3 1", 1, "known 3 2", 1, "line 0 1", 1);
        // By law 3 a slack of up to 4 costs nothing, so all of these are like: 0 owns all that fit on a line.
        due.row(new Run("'a b c", "type", "measure 5", "rule 3", "free 1"), "end 1 1", 0, "end 2 1", 0, "end 3 1", 1, "told 6", 0);
    }

    /** As wide as 512 calls can make a line: 38 words of 12 letters m. */
    private static void widest() {
        List<String> calls = new ArrayList<>();
        calls.add("'" + "mmmmmmmmmmmm ".repeat(18));
        calls.add("type");
        for (int i = 0; i < 20; i++) {
            calls.add("'mmmmmmmmmmmm");
            calls.add("insert 0");
        }
        int width = 38 * 36 + 37;
        Run run = new Run(calls);
        due.row(run, "measure 1", 38 * 35 * 35, "told 7", 38, "cost 0 38", (width - 1) * (width - 1), "with 1", (width - 1) * (width - 1));
        due.row(new Run(calls), "rule 2", 38 * 120, "cost 0 38", 20 * (width - 30), "rule 3", 100 + width - 30);
    }
}

/** The edges of section 1 and of promises 1 to 8: letters, words, faults, and the bounds of what is told. */
public final class TextEdgesTest {
    private static final Due due = new Due("TextEdgesTest");
    private static final int NONE = EvenBreaks.NONE;
    private static final int UNKNOWN = EvenBreaks.UNKNOWN;
    private static final int OUTSIDE = EvenBreaks.OUTSIDE;
    private static final int NOT = EvenBreaks.NOT;
    private static final int FULL = EvenBreaks.FULL;
    private static final String TWELVE = "abcdefghijkl";

    public static void main(String[] args) {
        newObject();
        emptyTextIsAsNew();
        everyLetterAlone();
        everyLetterInAWord();
        everyWidth();
        letters240();
        blanks();
        letters12();
        words40();
        firstFault();
        faultOfTheLatest();
        typedAnew();
        wordBounds();
        growsBounds();
        endBounds();
        lineBounds();
        toldBounds();
        due.close();
    }

    /** Promise 1: "No WORDS." and the "at first" of section 2. */
    private static void newObject() {
        noWordsAre(new Run());
        due.row(new Run(), "change 0", UNKNOWN, "take 0", UNKNOWN, "insert 1", UNKNOWN, "insert 0", NOT, "undo 1", NOT,
            "goBack 0", NOT, "goBack 1", NOT, "tear", 0, "seed 0", 0, "told 18", 0, "type", 0, "told 18", 1);
    }

    /** "An empty text (or one of blanks alone): no WORDS." */
    private static void emptyTextIsAsNew() {
        noWordsAre(new Run("type", "keep 0"));
        noWordsAre(new Run("' ", "type", "keep 0"));
        noWordsAre(new Run("'" + " ".repeat(240), "type", "keep 0"));
        noWordsAre(new Run("'one two", "type", "type", "keep 0"));
        noWordsAre(new Run("'one two", "type", "take 1", "take 0", "keep 0"));
        noWordsAre(new Run("drift 5", "undo 5"));
    }

    private static void noWordsAre(Run run) {
        int[] told = {0, 30, 0, 0, 0, 0, 0, 0, 1, 1, 0, 0, 200, 1, 200, NONE, 0, NONE, 0};
        for (int what = 0; what <= 18; what++) {
            due.is("told(" + what + ") with no words", run.call("told", what, 0, 0), told[what]);
        }
        due.row(run, "fault", NONE, "word 0 0", UNKNOWN, "line 0 0", UNKNOWN, "end 0 0", 0, "end 0 1", NONE, "end 0 2", 0,
            "end 1 0", UNKNOWN, "cost 0 0", UNKNOWN, "cost 0 1", UNKNOWN, "known 0 0", UNKNOWN, "known 1 0", UNKNOWN,
            "first 0", NONE, "first 1", NONE, "with 1", NONE, "with 40", NONE, "best 1 200 0", 1, "best 1 200 1", 0,
            "best 200 200 0", 200);
    }

    /** FAULT 1: "a letter that is neither", neither a to z nor a blank (32). */
    private static void everyLetterAlone() {
        for (int letter = 0; letter <= 255; letter++) {
            Run run = new Run();
            due.is("feed(" + letter + ")", run.call("feed", letter, 0, 0), 1);
            boolean isLetter = letter >= 97 && letter <= 122;
            due.is("type() of " + letter, run.call("type"), isLetter ? 1 : letter == 32 ? 0 : -11);
            due.is("fault() of " + letter, run.call("fault"), isLetter || letter == 32 ? NONE : 0);
        }
        due.row(new Run(), "feed -1", OUTSIDE, "feed 256", OUTSIDE, "feed 0", 1, "feed 255", 2, "feed -2147483648", OUTSIDE,
            "feed 2147483647", OUTSIDE, "told 5", 2);
    }

    private static void everyLetterInAWord() {
        for (int letter = 0; letter <= 255; letter++) {
            Run run = new Run("'ab");
            run.call("feed", letter, 0, 0);
            run.call("'c");
            boolean isLetter = letter >= 97 && letter <= 122;
            due.is("type() of ab, " + letter + ", c", run.call("type"), isLetter ? 1 : letter == 32 ? 2 : -11);
            due.is("fault() of ab, " + letter + ", c", run.call("fault"), isLetter || letter == 32 ? NONE : 2);
            due.is("that letter", run.call("word 0 6"), isLetter ? letter : letter == 32 ? NONE : UNKNOWN);
        }
    }

    /** "f, i, j, l, r, t have 1, m and w 3, all others 2." */
    private static void everyWidth() {
        int[] widths = {2, 2, 2, 2, 2, 1, 2, 2, 1, 1, 2, 1, 3, 2, 2, 2, 2, 1, 2, 1, 2, 2, 3, 2, 2, 2};
        for (int i = 0; i < 26; i++) {
            char letter = (char) ('a' + i);
            due.row(new Run("'" + letter, "type"), "word 0 0", widths[i], "word 0 1", 1, "word 0 4", 97 + i, "word 0 5", NONE);
            String twelve = String.valueOf(letter).repeat(12);
            due.row(new Run("'" + twelve, "type"), "word 0 0", 12 * widths[i], "word 0 1", 12, "word 0 15", 97 + i);
        }
    }

    /** "A text (240 letters at most)"; feed is "FULL (240)". */
    private static void letters240() {
        String most = (TWELVE + " ").repeat(18) + "mnopqr";
        Run run = new Run("'" + most.substring(0, 239));
        due.row(run, "told 5", 239, "feed 114", 240, "feed 115", FULL, "feed 32", FULL, "told 5", 240, "type", 19, "told 5", 0,
            "word 18 1", 6, "word 18 9", 'r', "word 18 10", NONE, "word 17 15", 'l', "feed 97", 1);
        due.row(new Run("'" + " ".repeat(239) + "!"), "feed 97", FULL, "type", -11, "fault", 239, "told 5", 0, "feed 97", 1);
        due.row(new Run("'" + " ".repeat(239) + "a"), "type", 1, "word 0 4", 'a');
        due.row(new Run("'a" + " ".repeat(239)), "type", 1, "word 0 1", 1);
        // What is not read stays, and can be read later.
        due.row(new Run("'" + " ".repeat(239)), "told 5", 239, "change 0", UNKNOWN, "insert 1", UNKNOWN, "take 0", UNKNOWN,
            "feed 98", 240, "insert 0", 2, "told 5", 0, "told 0", 1);
    }

    /** "with blanks (32) between, ahead and behind, as many as one likes" */
    private static void blanks() {
        Run run = new Run();
        due.row(run, "'a b", 3, "type", 2, "'   a b", 6, "type", 2, "'a b   ", 6, "type", 2, "'a      b", 8, "type", 2);
        due.row(run, "'   a   b   ", 11, "type", 2, "word 0 1", 1, "word 1 1", 1, "word 1 4", 'b', "word 2 0", UNKNOWN);
        due.row(run, "'ab", 2, "type", 1, "' a b ", 5, "type", 2, "' ab ", 4, "type", 1);
    }

    /** "WORDS .. of 1 to 12 letters"; FAULT 2: "a 13th letter of a WORD" */
    private static void letters12() {
        Run run = new Run();
        due.row(run, "'" + TWELVE, 12, "type", 1, "fault", NONE, "word 0 1", 12, "word 0 4", 'a', "word 0 15", 'l');
        due.row(run, "'" + TWELVE + "m", 13, "type", -12, "fault", 12, "word 0 1", 12);
        due.row(run, "'  " + TWELVE + "m", 15, "type", -12, "fault", 14);
        due.row(run, "'a " + TWELVE + "mn", 16, "type", -12, "fault", 14);
        due.row(run, "'" + TWELVE + " m", 14, "type", 2, "fault", NONE, "word 0 1", 12, "word 1 1", 1);
        due.row(run, "'" + TWELVE + " " + TWELVE, 25, "type", 2, "word 1 15", 'l');
        due.row(run, "'" + "z".repeat(12), 12, "type", 1, "word 0 15", 'z', "word 0 0", 24);
    }

    /** "WORDS (40 at most)"; FAULT 3: "the first letter of a 41st WORD" */
    private static void words40() {
        String forty = "a ".repeat(39) + "b";
        Run run = new Run();
        due.row(run, "'" + forty, 79, "type", 40, "word 39 4", 'b', "word 40 0", UNKNOWN, "end 40 0", 4, "end 41 0", UNKNOWN);
        due.row(run, "'   " + forty + "   ", 85, "type", 40, "fault", NONE);
        due.row(run, "'" + forty + " c", 81, "type", -13, "fault", 80, "told 0", 40);
        due.row(run, "'" + forty + "    cdef gh", 90, "type", -13, "fault", 83);
        due.row(new Run("'" + "a ".repeat(39) + TWELVE), "type", 40, "word 39 1", 12);
        due.row(new Run("'" + "a ".repeat(39) + TWELVE + "m"), "type", -12, "fault", 90, "told 0", 0);
        due.row(new Run("'" + "a ".repeat(120)), "type", -13, "fault", 80);
    }

    /** "FAULTS, at the first letter that has one" */
    private static void firstFault() {
        String forty = "a ".repeat(40);
        Run run = new Run();
        due.row(run, "'?" + TWELVE + "m", 14, "type", -11, "fault", 0);
        due.row(run, "'" + TWELVE + "m?", 14, "type", -12, "fault", 12);
        due.row(run, "'" + TWELVE + "?", 13, "type", -11, "fault", 12);
        due.row(run, "'a?b?c", 5, "type", -11, "fault", 1);
        due.row(run, "'" + forty + "?b", 82, "type", -11, "fault", 80);
        due.row(run, "'" + forty + "b?", 82, "type", -13, "fault", 80);
        due.row(new Run("'" + forty + TWELVE + "m"), "type", -13, "fault", 80);
        due.row(new Run("'" + TWELVE + "m " + forty + "b"), "type", -12, "fault", 12);
    }

    /** Promise 4: "The letter of the FAULT of the latest type(), change(), insert(); NONE." */
    private static void faultOfTheLatest() {
        Run run = new Run("'ab", "type");
        due.row(run, "fault", NONE, "'a-", 2, "fault", NONE, "type", -11, "fault", 1, "'cd", 2, "fault", 1);
        due.row(run, "measure 9", 25, "take 0", 4, "undo 2", 1, "told 12", 200, "fault", 1, "change 0", 4, "fault", NONE);
        due.row(run, "'+", 1, "change 0", -11, "fault", 0, "'x", 1, "insert 1", 2, "fault", NONE);
        due.row(run, "'  " + TWELVE + "x", 15, "insert 0", -12, "fault", 14, "'y", 1, "type", 1, "fault", NONE);
        due.row(run, "'ab!", 3, "insert 0", -11, "fault", 2, "type", 0, "fault", NONE);
    }

    /** Promise 3: "how many WORDS; -10 less the number of its FAULT (all is as it was)" */
    private static void typedAnew() {
        Run run = new Run("'one two three", "type", "measure 77", "rule 3", "fee 5", "free 1");
        due.row(run, "'x", 1, "type", 1, "told 0", 1, "told 1", 77, "told 2", 3, "told 3", 5, "told 4", 1, "told 18", 6);
        due.row(run, "'y z?", 4, "type", -11, "told 0", 1, "word 0 4", 'x', "told 1", 77, "told 18", 6, "told 5", 0);
        due.row(run, "type", 0, "told 0", 0, "told 6", 0, "told 18", 7, "undo 1", 1, "undo 1", 3);
    }

    /** Promise 6: "UNKNOWN, OUTSIDE (0 .. 15)"; "its letters, from the first on (NONE: not so many)" */
    private static void wordBounds() {
        Run run = new Run("'a abcdefghijk " + TWELVE, "type");
        due.row(run, "word 0 4", 'a', "word 0 5", NONE, "word 0 15", NONE, "word 1 14", 'k', "word 1 15", NONE,
            "word 2 15", 'l', "word 2 16", OUTSIDE, "word 2 -1", OUTSIDE, "word 3 0", UNKNOWN, "word -1 0", UNKNOWN,
            "word 2 2147483647", OUTSIDE, "word 0 -2147483648", OUTSIDE, "word 2147483647 4", UNKNOWN, "word -2147483648 4", UNKNOWN);
        // Two lines, of which the second begins with word 2.
        Run lines = new Run("'aaa bbb ccc ddd", "type", "measure 13");
        due.row(lines, "told 7", 2, "word 0 2", 0, "word 1 2", 0, "word 2 2", 1, "word 3 2", 1, "word 4 2", UNKNOWN);
        Run apart = new Run("'" + "a ".repeat(40), "type", "measure 2");
        for (int w = 0; w < 40; w++) {
            due.is("line of word " + w, apart.call("word", w, 2, 0), w);
        }
    }

    /** GROWS: "(1 .. 50) .. NONE" */
    private static void growsBounds() {
        // By law 2 both fill a line of 13; one more costs 20, apart they cost 6 and 7.
        due.row(new Run("'aaa bbb", "type", "measure 13", "rule 2"), "told 7", 1, "word 0 3", 1, "word 1 3", 1);
        // By law 0 together (m - 13 - d) squared, apart (m - 6) squared and (m - 6 - d) squared: 14 * d must be more
        // than 631 by 26, 686 by 27, 743 by 28.
        due.row(new Run("'aaa bbb", "type", "measure 26"), "word 0 3", 46, "measure 27", 196, "word 0 3", 50, "word 1 3", 50,
            "measure 28", 225, "word 0 3", NONE, "word 1 3", NONE);
        // By law 2 together 20 * (d - m + 13), apart 2 * (m - 6) - d: 21 * d must be more than 1048 by 60, 1070 by 61.
        due.row(new Run("'aaa bbb", "type", "rule 2", "measure 60"), "word 0 3", 50, "word 1 3", 50, "measure 61", 48, "word 0 3", NONE,
            "word 1 3", NONE, "measure 59", 46, "word 0 3", 49);
        // A word alone on its line, which is free, and is wide enough for 50 more, or is not.
        due.row(new Run("'aaa", "type", "measure 1"), "word 0 3", NONE, "free 1", 25, "word 0 3", NONE, "measure 200", 0,
            "word 0 3", NONE);
        // By law 1 and 6 both cost 7 and d too many, and the fee 7 spares the other line: like ones stay as they are.
        due.row(new Run("'aaa bbb", "type", "measure 6", "rule 1", "fee 7"), "told 7", 1, "word 0 3", NONE, "fee 8", 15,
            "word 0 3", NONE, "fee 6", 12, "told 7", 2, "word 0 3", NONE);
        // By 7 one line costs 5 and 6, two 6 each; with one more 5 and 7, or 5 and 6.
        due.row(new Run("'aaa bbb", "type", "measure 7", "rule 1", "fee 5"), "told 7", 1, "word 0 3", 1);
    }

    /** Promise 7: ENDS are 0 to as many as there are; "RUNS at it (0 at the last)". */
    private static void endBounds() {
        Run run = new Run("'aaa bbb ccc", "type", "measure 13");
        due.row(run, "end -1 0", UNKNOWN, "end 0 0", 0, "end 0 1", NONE, "end 3 0", 49, "end 3 1", 0, "end 3 2", 0,
            "end 2 2", 1, "end 4 0", UNKNOWN, "end 0 -1", OUTSIDE, "end 0 3", OUTSIDE, "end 3 3", OUTSIDE, "end 3 -1", OUTSIDE);
        due.row(run, "end 2147483647 0", UNKNOWN, "end -2147483648 2", UNKNOWN, "end 3 2147483647", OUTSIDE);
        Run most = new Run("'" + "a ".repeat(40), "type", "measure 2");
        due.row(most, "end 40 0", 0, "end 40 1", 39, "end 40 2", 0, "end 39 2", 1, "end 41 0", UNKNOWN, "end 1 1", 0);
        // Known to 0 alone all ENDS have the OWNER 0.
        due.row(most, "end 0 2", 1);
        due.row(new Run("'a", "type"), "end 1 0", 784, "end 1 1", 0, "end 1 2", 0, "end 0 2", 1, "end 2 0", UNKNOWN);
    }

    /** Promise 8: "UNKNOWN, OUTSIDE." */
    private static void lineBounds() {
        Run run = new Run("'aaa bbb ccc ddd", "type", "measure 13");
        due.row(run, "line 0 0", 0, "line 0 1", 2, "line 0 2", 13, "line 0 3", 0, "line 1 0", 2, "line 1 1", 4, "line 1 2", 13,
            "line 1 3", 0, "line 2 0", UNKNOWN, "line -1 0", UNKNOWN, "line 0 4", OUTSIDE, "line 0 -1", OUTSIDE,
            "line 1 4", OUTSIDE, "line 2147483647 0", UNKNOWN, "line -2147483648 3", UNKNOWN, "line 1 2147483647", OUTSIDE);
        due.row(new Run("'" + "a ".repeat(40), "type", "measure 2"), "told 7", 40, "line 39 0", 39, "line 39 1", 40, "line 39 2", 2,
            "line 39 3", 0, "line 40 0", UNKNOWN);
        due.row(new Run("'aaa", "type"), "line 0 0", 0, "line 0 1", 1, "line 0 2", 6, "line 0 3", 576, "line 1 0", UNKNOWN);
    }

    /** Promise 5: what is 0 to 18; "(13, 14: NONE)"; RIVERS want a line above. */
    private static void toldBounds() {
        Run run = new Run("'aaa bbb", "type");
        due.row(run, "told -1", OUTSIDE, "told 19", OUTSIDE, "told 2147483647", OUTSIDE, "told -2147483648", OUTSIDE, "told 0", 2,
            "told 18", 1);
        due.row(run, "see 2 1", 1, "told 12", 0, "told 13", NONE, "told 14", NONE, "told 15", NONE);
        due.row(new Run("'a b c d e", "type"), "told 7", 1, "told 10", 0);
        due.row(new Run("'a b c d e f", "type", "measure 2"), "told 7", 6, "told 10", 0);
        // The line below ends just below the gap at 6; then the line above ends where the one below has its gap.
        due.row(new Run("'aaa b ccc", "type", "measure 9", "free 1"), "told 7", 2, "line 0 1", 2, "line 1 2", 6, "told 10", 0);
        due.row(new Run("'aaa b ccc", "type", "measure 9"), "line 0 2", 6, "line 1 2", 9, "told 10", 0);
        due.row(new Run("'bbb aaa c", "type", "measure 9"), "line 0 2", 6, "line 1 2", 9, "told 10", 0);
        // Gaps at 2 and 5 of each line of 8: two lines have two rivers; 12 lines of 3 words and one of 4 have 24.
        due.row(new Run("'a b c d e f", "type", "measure 8"), "told 7", 2, "told 10", 2);
        due.row(new Run("'" + "a ".repeat(40), "type", "measure 8"), "told 7", 13, "told 6", 9, "told 10", 24);
    }
}

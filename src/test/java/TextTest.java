/** Promises 1 to 8: a new object, letters, faults, and what is told of words, ends and lines. */
public final class TextTest {
    private static final Due due = new Due("TextTest");

    public static void main(String[] args) {
        newObject();
        letters();
        texts();
        faults();
        toldNumbers();
        words();
        growth();
        ends();
        lines();
        laws();
        freeLastLine();
        rivers();
        due.close();
    }

    private static void newObject() {
        EvenBreaks x = new EvenBreaks();
        due.is("words", x.told(0), 0);
        due.is("measure", x.told(1), 30);
        for (int what : new int[] {2, 3, 4, 5, 6, 7, 10, 11, 16, 18}) {
            due.is("new told(" + what + ")", x.told(what), 0);
        }
        due.is("even", x.told(8), 1);
        due.is("odd", x.told(9), 1);
        due.is("fault", x.fault(), EvenBreaks.NONE);
        due.is("total of end 0", x.end(0, 0), 0);
        due.is("owner of end 0", x.end(0, 1), EvenBreaks.NONE);
        due.is("runs at end 0", x.end(0, 2), 0);
        due.is("no word", x.word(0, 0), EvenBreaks.UNKNOWN);
        due.is("no line", x.line(0, 0), EvenBreaks.UNKNOWN);
        due.is("no end 1", x.end(1, 0), EvenBreaks.UNKNOWN);
        due.is("seed", x.seed(1), 0);
    }

    private static void letters() {
        EvenBreaks x = new EvenBreaks();
        due.is("feed(-1)", x.feed(-1), EvenBreaks.OUTSIDE);
        due.is("feed(256)", x.feed(256), EvenBreaks.OUTSIDE);
        due.is("feed(0)", x.feed(0), 1);
        due.is("feed(255)", x.feed(255), 2);
        for (int i = 3; i <= 240; i++) {
            due.is("letter " + i, x.feed('a'), i);
        }
        due.is("feed the 241st", x.feed('a'), EvenBreaks.FULL);
        due.is("feed the 241st, outside", x.feed(256), EvenBreaks.OUTSIDE);
        due.is("typed letters", x.told(5), 240);
        due.is("type()", x.type(), -11);
        due.is("typed letters behind type()", x.told(5), 0);
        due.is("feed again", x.feed('a'), 1);
    }

    private static void texts() {
        EvenBreaks x = new EvenBreaks();
        due.is("an empty text", x.type(), 0);
        due.is("an empty text is a deed", x.told(18), 1);
        Due.feed(x, "  one   two three  ");
        due.is("three words", x.type(), 3);
        due.isText("three words", x, "one two three");
        Due.feed(x, "abcdefghijkl");
        due.is("a word of 12", x.type(), 1);
        due.isText("a word of 12", x, "abcdefghijkl");
        Due.feed(x, "mnopqrstuvwx yz");
        due.is("the other letters", x.type(), 2);
        due.isText("the other letters", x, "mnopqrstuvwx yz");
        Due.feed(x, "a ".repeat(40));
        due.is("40 words", x.type(), 40);
        Due.feed(x, " ");
        due.is("blanks alone", x.type(), 0);
    }

    private static void faults() {
        EvenBreaks x = Due.typed("as it was");
        isFault(x, "ab`c", -11, 2);
        isFault(x, "ab{c", -11, 2);
        isFault(x, "Ab", -11, 0);
        isFault(x, "ab\tc", -11, 2);
        isFault(x, "abcdefghijklm", -12, 12);
        isFault(x, "abcdefghijkl!", -11, 12);
        isFault(x, "a ".repeat(40) + "  b", -13, 82);
        isFault(x, "a ".repeat(40) + "?", -11, 80);
        isFault(x, "a ".repeat(39) + "abcdefghijklm n", -12, 90);
        isFault(x, "abcdefghijklm ?", -12, 12);
        due.is("faults are no deeds", x.told(18), 1);
        due.is("type() without a fault", x.type(), 0);
        due.is("no fault", x.fault(), EvenBreaks.NONE);
    }

    private static void isFault(EvenBreaks x, String letters, int answer, int at) {
        Due.feed(x, letters);
        due.is("type() of " + letters, x.type(), answer);
        due.is("fault() of " + letters, x.fault(), at);
        due.is("letters behind " + letters, x.told(5), 0);
        due.isText("behind " + letters, x, "as it was");
    }

    private static void toldNumbers() {
        EvenBreaks x = Due.typed("aaa bbb ccc");
        x.measure(13);
        x.rule(2);
        x.fee(7);
        x.free(true);
        Due.feed(x, "ab");
        x.see(0, true);
        x.write(0, 1);
        x.write(0, 0);
        // 15, the END to look at, has its own tests in SeenTest.
        int[] want = {3, 13, 2, 7, 1, 2, 14, 2, 1, 0, 0, 1, 200, 1, 200, x.told(15), 2, 0, 5};
        for (int what = 0; what <= 18; what++) {
            due.is("told(" + what + ")", x.told(what), want[what]);
        }
        due.is("told(-1)", x.told(-1), EvenBreaks.OUTSIDE);
        due.is("told(19)", x.told(19), EvenBreaks.OUTSIDE);
    }

    private static void words() {
        EvenBreaks x = Due.typed("fijlrt mw abcdeghknops quvxyz a");
        int[] widths = {6, 6, 24, 12, 2};
        int[] lengths = {6, 2, 12, 6, 1};
        for (int w = 0; w < 5; w++) {
            due.is("width of " + w, x.word(w, 0), widths[w]);
            due.is("letters of " + w, x.word(w, 1), lengths[w]);
        }
        due.is("first letter", x.word(1, 4), 'm');
        due.is("second letter", x.word(1, 5), 'w');
        due.is("no third letter", x.word(1, 6), EvenBreaks.NONE);
        due.is("a 12th letter", x.word(2, 15), 's');
        due.is("no 12th letter", x.word(3, 15), EvenBreaks.NONE);
        due.is("line of the first", x.word(0, 2), 0);
        due.is("line of the last", x.word(4, 2), x.told(7) - 1);
        due.is("word -1", x.word(-1, 0), EvenBreaks.UNKNOWN);
        due.is("word 5", x.word(5, 0), EvenBreaks.UNKNOWN);
        due.is("word 5, what 16", x.word(5, 16), EvenBreaks.UNKNOWN);
        due.is("what 16", x.word(0, 16), EvenBreaks.OUTSIDE);
        due.is("what -1", x.word(0, -1), EvenBreaks.OUTSIDE);
    }

    private static void growth() {
        // Two words of 6 on a line of 13: 0 on one line, or 49 and 49 apart; one of 6 + d costs d * d together
        // with the other, else (7 - d) squared and 49.
        EvenBreaks x = Due.typed("aaa bbb");
        x.measure(13);
        due.is("one line", x.told(7), 1);
        due.is("both on a line cost most from 8 on", x.word(0, 3), 8);
        due.is("so does the other", x.word(1, 3), 8);
        // Together (14 - d) squared, apart 21 squared and (21 - d) squared: like by 49.
        x.measure(27);
        due.is("50 are just enough", x.word(0, 3), 50);
        x.measure(28);
        due.is("51 are too many", x.word(0, 3), EvenBreaks.NONE);
        EvenBreaks alone = Due.typed("aaa");
        due.is("one word is always one line", alone.word(0, 3), EvenBreaks.NONE);
        // Law 1, measure 200: d too many cost d, apart they cost 194 and 194 - d at least.
        EvenBreaks wide = Due.typed("aaa bbb");
        wide.measure(200);
        wide.rule(1);
        due.is("50 are not enough", wide.word(0, 3), EvenBreaks.NONE);
    }

    private static void ends() {
        EvenBreaks x = Due.typed("aaa bbb ccc");
        x.measure(13);
        // Widths 6; one word: slack 7, two: 0, three: -7.
        int[] totals = {0, 49, 0, 49};
        int[] owners = {EvenBreaks.NONE, 0, 0, 0};
        for (int e = 0; e < 4; e++) {
            due.is("total of " + e, x.end(e, 0), totals[e]);
            due.is("owner of " + e, x.end(e, 1), owners[e]);
        }
        due.is("runs at 0", x.end(0, 2), 1);
        // Known to 1: end 2 by 0 (0, not 49 + 49), end 3 by 0 (49) or 1 (49): the least.
        due.is("runs at 1", x.end(1, 2), 1);
        due.is("runs at 2", x.end(2, 2), 1);
        due.is("runs at the last", x.end(3, 2), 0);
        due.is("end -1", x.end(-1, 0), EvenBreaks.UNKNOWN);
        due.is("end 4", x.end(4, 0), EvenBreaks.UNKNOWN);
        due.is("end 4, what 3", x.end(4, 3), EvenBreaks.UNKNOWN);
        due.is("what 3", x.end(0, 3), EvenBreaks.OUTSIDE);
        due.is("what -1", x.end(3, -1), EvenBreaks.OUTSIDE);
        // Law 2 at 13: end 3 costs 7 from 2, 7 + 0 from 1, 140 from 0: of like ones the least.
        x.rule(2);
        due.is("like owners", x.end(3, 1), 1);
        due.is("runs at 1 by law 2", x.end(1, 2), 2);
        due.is("runs at 2 by law 2", x.end(2, 2), 1);
    }

    private static void lines() {
        EvenBreaks x = Due.typed("aaa bbb ccc");
        x.measure(13);
        x.rule(2);
        x.fee(3);
        int[][] want = {{0, 1, 6, 10}, {1, 3, 13, 3}};
        due.is("lines", x.told(7), 2);
        for (int k = 0; k < 2; k++) {
            for (int what = 0; what < 4; what++) {
                due.is("line(" + k + ", " + what + ")", x.line(k, what), want[k][what]);
            }
        }
        due.is("word 0 in", x.word(0, 2), 0);
        due.is("word 1 in", x.word(1, 2), 1);
        due.is("word 2 in", x.word(2, 2), 1);
        due.is("line -1", x.line(-1, 0), EvenBreaks.UNKNOWN);
        due.is("line 2", x.line(2, 0), EvenBreaks.UNKNOWN);
        due.is("line 2, what 4", x.line(2, 4), EvenBreaks.UNKNOWN);
        due.is("what 4", x.line(0, 4), EvenBreaks.OUTSIDE);
        due.is("what -1", x.line(0, -1), EvenBreaks.OUTSIDE);
    }

    private static void laws() {
        EvenBreaks x = Due.typed("aaa");
        int[] measures = {6, 10, 11, 200, 5, 1};
        int[][] want = {
            {0, 16, 25, 37636, 1, 25},
            {0, 4, 5, 194, 1, 5},
            {0, 4, 5, 194, 20, 100},
            {0, 0, 1, 38, 101, 105},
            {0, 20, 22, 139, 1, 5},
        };
        for (int law = 0; law <= 4; law++) {
            for (int i = 0; i < measures.length; i++) {
                x.rule(4 - law);
                x.rule(law);
                due.is("law " + law + " measure " + measures[i], x.measure(measures[i]), want[law][i]);
            }
        }
        x.fee(99);
        due.is("with a fee", x.told(6), 104);
    }

    private static void freeLastLine() {
        EvenBreaks x = Due.typed("aaa bbb");
        x.measure(6);
        x.fee(5);
        due.is("two lines that fit", x.told(6), 10);
        x.measure(20);
        due.is("not free", x.told(6), 54);
        due.is("free", x.free(true), 5);
        due.is("a line not last is not free", x.cost(0, 1), 201);
        due.is("the last line is free", x.cost(1, 2), 5);
        x.measure(13);
        due.is("slack 0 is free", x.cost(0, 2), 5);
        x.measure(12);
        due.is("a wider one is not", x.cost(0, 2), 6);
    }

    private static void rivers() {
        EvenBreaks x = Due.typed("aa bbb cc ddd");
        x.measure(11);
        due.is("two lines", x.told(7), 2);
        due.is("a gap below a gap", x.told(10), 1);
        Due.feed(x, "aa bbb cccc d");
        x.type();
        due.is("two lines again", x.told(7), 2);
        due.is("none below", x.told(10), 0);
        Due.feed(x, "aaa bbb c");
        x.type();
        x.measure(9);
        due.is("a short line above", x.line(0, 2), 6);
        due.is("its end is no gap", x.told(10), 0);
        Due.feed(x, "a b c d e f g h i");
        x.type();
        x.measure(8);
        due.is("three lines", x.told(7), 3);
        due.is("two gaps below two, twice", x.told(10), 4);
    }
}

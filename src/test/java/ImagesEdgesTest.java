import java.util.List;

/** The edges of promises 26 to 28: the bounds of THE SEED, IMAGES that were not kept, what can be undone behind them. */
public final class ImagesEdgesTest {
    private static final Due due = new Due("ImagesEdgesTest");
    private static final int UNKNOWN = EvenBreaks.UNKNOWN;
    private static final int OUTSIDE = EvenBreaks.OUTSIDE;
    private static final int NOT = EvenBreaks.NOT;

    public static void main(String[] args) {
        seedBounds();
        keepBounds();
        goBackBounds();
        notKept();
        imageOfNoWords();
        imageOfFortyWords();
        keptAnew();
        nothingUndoneBehindThem();
        deedsSinceTheImage();
        seedIsKept();
        sameAgain();
        due.close();
    }

    /** Promise 26: "v (0 .. 2147483647): what it was" */
    private static void seedBounds() {
        due.row(new Run(), "seed 2147483647", 0, "seed -1", OUTSIDE, "seed -2147483648", OUTSIDE, "seed -2147483647", OUTSIDE, "seed 0", 2147483647,
            "seed 1", 0, "seed 1", 1, "seed 2147483646", 1, "seed 5", 2147483646, "told 18", 0);
    }

    /** Promise 27: "1. UNKNOWN." */
    private static void keepBounds() {
        due.row(new Run("measure 9"), "keep -1", UNKNOWN, "keep 2", UNKNOWN, "keep 2147483647", UNKNOWN, "keep -2147483648", UNKNOWN, "told 18", 1,
            "goBack 0", NOT, "goBack 1", NOT, "keep 0", 1, "told 18", 0, "keep 1", 1, "keep 0", 1);
    }

    /** Promise 28: "UNKNOWN, NOT: it was not kept." */
    private static void goBackBounds() {
        due.row(new Run("keep 0", "keep 1", "measure 9"), "goBack -1", UNKNOWN, "goBack 2", UNKNOWN, "goBack 2147483647", UNKNOWN,
            "goBack -2147483648", UNKNOWN, "told 1", 9, "told 18", 1, "goBack 1", 1, "told 1", 30, "goBack 0", 1);
    }

    private static void notKept() {
        due.row(new Run("measure 9"), "goBack 0", NOT, "goBack 1", NOT, "told 1", 9, "told 18", 1, "keep 0", 1, "goBack 1", NOT, "goBack 0", 1);
        due.row(new Run("measure 9", "keep 1"), "goBack 0", NOT, "measure 8", 0, "goBack 0", NOT, "told 18", 1, "goBack 1", 1, "told 1", 9);
        due.row(new Run("keep 1", "goBack 1"), "goBack 0", NOT);
        due.row(new Run("keep 2", "keep -1"), "goBack 0", NOT, "goBack 1", NOT);
    }

    /** An IMAGE of a new object is one too. */
    private static void imageOfNoWords() {
        List<String> away = List.of("keep 0", "seed 3", "drift 16", "measure 9", "rule 4", "fee 9", "free 1", "keep 1");
        due.row(new Run(away), "goBack 0", 1, "told 0", 0, "told 1", 30, "told 2", 0, "told 3", 0, "told 4", 0, "told 6", 0, "told 7", 0, "told 18", 0,
            "end 1 0", UNKNOWN, "word 0 0", UNKNOWN, "seed 0", 0, "goBack 1", 1, "told 0", 16, "told 1", 9, "told 4", 1);
    }

    private static void imageOfFortyWords() {
        List<String> calls = List.of("seed 11", "drift 16", "drift 16", "drift 8", "keep 1");
        String was = new Run(calls).text();
        due.isText("40 words", new Run(Run.with(calls, "type", "'a b", "type", "goBack 1")).text(), was);
        due.isText("39 of them", new Run(Run.with(calls, "take 0", "keep 0", "drift 3", "goBack 0")).text(), was.substring(was.indexOf(' ') + 1));
        // What is done behind it does not reach into it.
        due.isText("changed behind", new Run(Run.with(calls, "goBack 1", "'m", "change 0", "drift 16", "goBack 1")).text(), was);
    }

    private static void keptAnew() {
        due.row(new Run("measure 9", "keep 0", "measure 8", "keep 0", "measure 7"), "goBack 0", 1, "told 1", 8);
        due.row(new Run("measure 9", "keep 0", "measure 8", "keep 1", "measure 7"), "goBack 0", 1, "told 1", 9, "keep 1", 1, "measure 6", 0,
            "goBack 1", 1, "told 1", 9);
    }

    /** "(nothing can be undone then)" */
    private static void nothingUndoneBehindThem() {
        Run run = new Run("measure 9", "fee 3");
        due.row(run, "told 18", 2, "keep 0", 1, "told 18", 0, "undo 1", NOT, "told 1", 9, "told 3", 3, "measure 8", 0, "told 18", 1, "goBack 0", 1,
            "told 18", 0, "undo 1", NOT, "told 1", 9);
        // So too where nothing was changed since, where the deeds are full, and by the other image.
        due.row(run, "goBack 0", 1, "told 18", 0, "drift 16", 16, "told 18", 16, "keep 1", 1, "told 18", 0, "undo 1", NOT, "undo 16", NOT,
            "drift 16", 32, "goBack 0", 1, "told 0", 0, "undo 16", NOT);
        due.row(new Run("keep 0", "measure 9"), "keep 2", UNKNOWN, "told 18", 1, "goBack 1", NOT, "told 18", 1, "undo 1", 0, "told 1", 30);
    }

    /** "the latest deeds .. since the IMAGE" */
    private static void deedsSinceTheImage() {
        Run run = new Run("measure 9", "measure 8", "keep 0", "measure 7", "measure 6");
        due.row(run, "told 18", 2, "undo 3", NOT, "undo 2", 0, "told 1", 8, "undo 1", NOT, "goBack 0", 1, "measure 5", 0, "undo 2", NOT, "undo 1", 0,
            "told 1", 8);
        Run many = new Run("measure 9", "keep 0");
        for (int m = 101; m <= 117; m++) {
            many.call("measure", m, 0, 0);
        }
        due.row(many, "told 18", 16, "undo 16", 0, "told 1", 101, "undo 1", NOT, "goBack 0", 1, "told 1", 9);
    }

    /** "IMAGES 0, 1 keep .. THE SEED." */
    private static void seedIsKept() {
        Run run = new Run("seed 2147483647", "keep 0", "seed 4", "keep 1", "seed 5");
        due.row(run, "goBack 0", 1, "seed 6", 2147483647, "goBack 1", 1, "seed 7", 4, "goBack 0", 1, "seed 0", 2147483647);
        // The same is drawn again.
        Run drawn = new Run("seed 8", "keep 0", "drift 9");
        String first = drawn.text();
        drawn.call("goBack 0");
        drawn.call("drift 9");
        due.isText("drawn again", drawn.text(), first);
    }

    /** All is as when it was kept, but what is SEEN, THE BOOK, and the letters and the fault of what is typed. */
    private static void sameAgain() {
        List<String> calls = List.of("seed 21", "drift 7", "measure 33", "rule 4", "fee 12", "free 1", "keep 1");
        List<String> asItWas = Everything.behind(calls);
        String[][] deeds = {
            {"'a b", "type"}, {"type"}, {"'xyz", "change 2"}, {"'xyz", "insert 7"}, {"take 6"}, {"measure 1"}, {"rule 0"}, {"fee 0"}, {"free 0"},
            {"drift 16", "drift 16", "drift 16"}, {"seed 1"}, {"drift 3", "undo 2"}, {"see 1 1", "write 0 0", "tear"}};
        for (String[] deed : deeds) {
            due.same("gone back from " + String.join(", ", deed), Everything.behind(Run.with(Run.with(calls, deed), "goBack 1")), asItWas);
        }
    }
}

/** Counts and prints the answers that are not as due. */
final class Due {
    private final String test;
    private int checks = 0;
    private int wrong = 0;

    Due(String test) {
        this.test = test;
    }

    void is(String what, long got, long want) {
        checks++;
        if (got != want) {
            wrong++;
            System.out.println(test + ": " + what + " answered " + got + ", due is " + want);
        }
    }

    /** Ends the test, with exit code 1 if an answer was wrong. */
    void close() {
        System.out.println(test + ": " + checks + " answers, " + wrong + " wrong");
        if (wrong != 0) {
            System.exit(1);
        }
    }

    /** Feeds every letter of a text that is short enough. */
    static void feed(EvenBreaks x, String letters) {
        for (int i = 0; i < letters.length(); i++) {
            x.feed(letters.charAt(i));
        }
    }

    static EvenBreaks typed(String letters) {
        EvenBreaks x = new EvenBreaks();
        feed(x, letters);
        x.type();
        return x;
    }

    static String spelled(EvenBreaks x, int w) {
        StringBuilder letters = new StringBuilder();
        for (int what = 4; what <= 15 && x.word(w, what) != EvenBreaks.NONE; what++) {
            letters.append((char) x.word(w, what));
        }
        return letters.toString();
    }

    /** All words with a blank between, so that a whole text can be compared at once. */
    static String text(EvenBreaks x) {
        StringBuilder letters = new StringBuilder();
        for (int w = 0; w < x.told(0); w++) {
            letters.append(w == 0 ? "" : " ").append(spelled(x, w));
        }
        return letters.toString();
    }

    void isText(String what, EvenBreaks x, String want) {
        checks++;
        String got = text(x);
        if (!got.equals(want)) {
            wrong++;
            System.out.println(test + ": " + what + " has the text '" + got + "', due is '" + want + "'");
        }
    }
}

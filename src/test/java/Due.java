import java.util.List;

/** Counts and prints the answers that are not as due. */
final class Due {
    private final String test;
    private int checks = 0;
    private int wrong = 0;

    Due(String test) {
        this.test = test;
    }

    void is(String what, long got, long want) {
        checks++;
        if (got != want) {
            wrong++;
            System.out.println(test + ": " + what + " answered " + got + ", due is " + want);
        }
    }

    /** Makes calls one behind the other: a call, the answer that is due, a call, an answer, and so on. */
    void row(Run run, Object... callsAndAnswers) {
        for (int i = 0; i + 1 < callsAndAnswers.length; i += 2) {
            String call = (String) callsAndAnswers[i];
            Object answer = callsAndAnswers[i + 1];
            int want = answer instanceof Character letter ? letter : (Integer) answer;
            is(call + " (call " + (i / 2 + 1) + " of its row)", run.call(call), want);
        }
    }

    /** Two lists of questions with their answers are the same. */
    void same(String what, List<String> got, List<String> want) {
        checks++;
        for (int i = 0; i < Math.max(got.size(), want.size()); i++) {
            String one = i < got.size() ? got.get(i) : "nothing";
            String other = i < want.size() ? want.get(i) : "nothing";
            if (!one.equals(other)) {
                wrong++;
                System.out.println(test + ": " + what + ": " + one + ", due is " + other);
                return;
            }
        }
    }

    void isText(String what, String got, String want) {
        checks++;
        if (!got.equals(want)) {
            wrong++;
            System.out.println(test + ": " + what + " has the text '" + got + "', due is '" + want + "'");
        }
    }

    /** Ends the test, with exit code 1 if an answer was wrong. */
    void close() {
        System.out.println(test + ": " + checks + " answers, " + wrong + " wrong");
        if (wrong != 0) {
            System.exit(1);
        }
    }

    /** Feeds every letter of a text that is short enough. */
    static void feed(EvenBreaks x, String letters) {
        for (int i = 0; i < letters.length(); i++) {
            x.feed(letters.charAt(i));
        }
    }

    static EvenBreaks typed(String letters) {
        EvenBreaks x = new EvenBreaks();
        feed(x, letters);
        x.type();
        return x;
    }

    static String spelled(EvenBreaks x, int w) {
        StringBuilder letters = new StringBuilder();
        int length = x.word(w, 1);
        for (int at = 0; at < length; at++) {
            letters.append((char) x.word(w, 4 + at));
        }
        return letters.toString();
    }

    /** All words with a blank between, so that a whole text can be compared at once. */
    static String text(EvenBreaks x) {
        StringBuilder letters = new StringBuilder();
        for (int w = 0; w < x.told(0); w++) {
            letters.append(w == 0 ? "" : " ").append(spelled(x, w));
        }
        return letters.toString();
    }

    void isText(String what, EvenBreaks x, String want) {
        isText(what, text(x), want);
    }
}

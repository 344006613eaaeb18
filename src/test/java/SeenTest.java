import java.util.ArrayList;
import java.util.HashSet;
import java.util.List;
import java.util.Set;
import java.util.function.Supplier;

/** Promises 23 to 25: what is seen of an unknown measure, the end to look at, the book, and both torn. */
public final class SeenTest {
    private static final Due due = new Due("SeenTest");

    public static void main(String[] args) {
        see();
        seenBehindDeeds();
        look();
        edges();
        noWords();
        write();
        wrongBehindDeeds();
        tear();
        due.close();
    }

    /** How the object lays "aaa bbb" by a measure: END 1 begins a line for the narrow ones. */
    private static int narrow() {
        int count = 0;
        for (int m = 1; m <= 200; m++) {
            EvenBreaks x = Due.typed("aaa bbb");
            x.measure(m);
            count += x.told(7) == 2 ? 1 : 0;
        }
        return count;
    }

    private static void see() {
        // Two lines cost 2 * (m - 6) squared, one (m - 13) squared: two cost less up to 8.
        due.is("narrow measures", narrow(), 8);
        EvenBreaks x = Due.typed("aaa bbb");
        due.is("see(3)", x.see(3, true), EvenBreaks.UNKNOWN);
        due.is("see(-1)", x.see(-1, true), EvenBreaks.UNKNOWN);
        due.is("nothing seen", x.told(11), 0);
        due.is("see(1, true)", x.see(1, true), 1);
        due.is("fitting", x.told(12), 8);
        due.is("the least", x.told(13), 1);
        due.is("the greatest", x.told(14), 8);
        due.is("no look is left", x.told(15), EvenBreaks.NONE);
        x.tear();
        x.see(1, false);
        due.is("the others", x.told(12), 192);
        due.is("their least", x.told(13), 9);
        due.is("their greatest", x.told(14), 200);
        x.see(1, true);
        due.is("none fits both", x.told(12), 0);
        due.is("no least", x.told(13), EvenBreaks.NONE);
        due.is("no greatest", x.told(14), EvenBreaks.NONE);
        due.is("no look", x.told(15), EvenBreaks.NONE);
        x.tear();
        for (int i = 1; i <= 6; i++) {
            due.is("seen " + i, x.see(0, true), i);
        }
        due.is("a line always begins at 0", x.told(12), 200);
        due.is("a 7th", x.see(0, true), EvenBreaks.FULL);
        due.is("UNKNOWN goes ahead of FULL", x.see(3, true), EvenBreaks.UNKNOWN);
        x.tear();
        x.see(2, true);
        due.is("no line begins at the last END", x.told(12), 0);
        x.tear();
        x.see(2, false);
        due.is("so none does", x.told(12), 200);
        due.is("to see is no deed", x.told(18), 1);
    }

    private static void seenBehindDeeds() {
        EvenBreaks x = Due.typed("aaa bbb");
        x.see(1, true);
        due.is("fitting", x.told(12), 8);
        x.measure(77);
        due.is("whatever the measure is", x.told(12), 8);
        x.fee(20);
        // 2 * (m - 6) squared and 20 more are less than (m - 13) squared up to 7.
        due.is("all else as now", x.told(12), 7);
        x.undo(2);
        due.is("undone", x.told(12), 8);
        x.take(1);
        due.is("END 1 is the last", x.told(12), 0);
        x.take(0);
        due.is("there is no END 1", x.told(12), 0);
        x.tear();
        due.is("nothing seen", x.told(12), 200);
    }

    private static void look() {
        EvenBreaks x = Due.typed("aaa bbb");
        due.is("one END parts them", x.told(15), 1);
        x.seed(5);
        x.drift(11);
        String text = Due.text(x);
        List<Set<Integer>> begins = beginsByMeasure(() -> Due.typed(text));
        for (boolean is : new boolean[] {false, true, false, true, true}) {
            int at = lookByDefinition(begins, x.told(0));
            due.is("look among " + begins.size(), x.told(15), at);
            due.is("fitting", x.told(12), begins.size());
            if (at != EvenBreaks.NONE) {
                x.see(at, is);
                begins.removeIf(set -> set.contains(at) != is);
            }
        }
    }

    /** Where lines begin, for each measure from 1 on. */
    private static List<Set<Integer>> beginsByMeasure(Supplier<EvenBreaks> maker) {
        List<Set<Integer>> all = new ArrayList<>();
        for (int m = 1; m <= 200; m++) {
            EvenBreaks y = maker.get();
            y.measure(m);
            Set<Integer> begins = new HashSet<>();
            for (int k = 0; k < y.told(7); k++) {
                begins.add(y.line(k, 0));
            }
            all.add(begins);
        }
        return all;
    }

    private static int lookByDefinition(List<Set<Integer>> begins, int last) {
        int at = EvenBreaks.NONE;
        int least = begins.size();
        for (int e = 0; e <= last; e++) {
            int part = 0;
            for (Set<Integer> set : begins) {
                part += set.contains(e) ? 1 : 0;
            }
            if (Math.max(part, begins.size() - part) < least) {
                least = Math.max(part, begins.size() - part);
                at = e;
            }
        }
        return at;
    }

    private static void edges() {
        // One line costs 4 and two nothing by 1, but 1 and 2 by 2.
        EvenBreaks x = Due.typed("f f");
        x.see(1, true);
        due.is("1 alone fits", x.told(12), 1);
        due.is("it is the least", x.told(13), 1);
        due.is("and the greatest", x.told(14), 1);
        List<Set<Integer>> begins = beginsByMeasure(SeenTest::drawn);
        EvenBreaks y = drawn();
        int[] unbroken = {22, 20, 14, 8};
        for (int e : unbroken) {
            y.see(e, false);
        }
        for (int m = 1; m <= 200; m++) {
            boolean fits = true;
            for (int e : unbroken) {
                fits = fits && !begins.get(m - 1).contains(e);
            }
            due.is(m + " fits", fits ? 1 : 0, m == 200 ? 1 : 0);
        }
        due.is("200 alone fits", y.told(12), 1);
        due.is("200 is the least", y.told(13), 200);
        due.is("200 is the greatest", y.told(14), 200);
    }

    private static EvenBreaks drawn() {
        EvenBreaks y = new EvenBreaks();
        y.seed(1655);
        y.drift(16);
        y.drift(16);
        return y;
    }

    private static void noWords() {
        EvenBreaks x = new EvenBreaks();
        due.is("END 0 is there", x.see(0, false), 1);
        due.is("no line begins there", x.told(12), 200);
        due.is("no look", x.told(15), EvenBreaks.NONE);
        x.tear();
        x.see(0, true);
        due.is("none begins there", x.told(12), 0);
    }

    private static void write() {
        EvenBreaks x = Due.typed("aaa bbb");
        due.is("no entries", x.told(17), EvenBreaks.NONE);
        due.is("write(0, 0)", x.write(0, 0), 1);
        due.is("write(39, NONE)", x.write(39, EvenBreaks.NONE), 2);
        due.is("right", x.told(17), EvenBreaks.NONE);
        due.is("write(40, 0)", x.write(40, 0), EvenBreaks.OUTSIDE);
        due.is("write(-1, 0)", x.write(-1, 0), EvenBreaks.OUTSIDE);
        due.is("write(0, 3)", x.write(0, 3), EvenBreaks.UNKNOWN);
        due.is("write(0, -2)", x.write(0, -2), EvenBreaks.UNKNOWN);
        due.is("UNKNOWN goes ahead of OUTSIDE", x.write(40, 3), EvenBreaks.UNKNOWN);
        due.is("write(1, 2)", x.write(1, 2), 3);
        due.is("there is no line 1", x.told(17), 2);
        due.is("write(0, NONE)", x.write(0, EvenBreaks.NONE), 4);
        due.is("the first", x.told(17), 2);
        for (int i = 5; i <= 20; i++) {
            due.is("entry " + i, x.write(0, 0), i);
        }
        due.is("a 21st", x.write(0, 0), EvenBreaks.FULL);
        due.is("OUTSIDE goes ahead of FULL", x.write(40, 0), EvenBreaks.OUTSIDE);
        due.is("entries", x.told(16), 20);
        due.is("to write is no deed", x.told(18), 1);
    }

    private static void wrongBehindDeeds() {
        EvenBreaks x = Due.typed("aaa bbb");
        x.write(0, 0);
        x.write(1, EvenBreaks.NONE);
        due.is("one line", x.told(17), EvenBreaks.NONE);
        x.measure(6);
        due.is("two lines", x.told(17), 1);
        x.undo(1);
        due.is("one again", x.told(17), EvenBreaks.NONE);
        x.undo(1);
        due.is("none", x.told(17), 0);
    }

    private static void tear() {
        EvenBreaks x = Due.typed("aaa bbb");
        due.is("nothing to tear", x.tear(), 0);
        x.see(1, true);
        x.see(1, false);
        x.write(0, 1);
        due.is("both", x.tear(), 3);
        due.is("seen", x.told(11), 0);
        due.is("entries", x.told(16), 0);
        due.is("fitting", x.told(12), 200);
        due.is("wrong", x.told(17), EvenBreaks.NONE);
        due.is("to tear is no deed", x.told(18), 1);
    }
}

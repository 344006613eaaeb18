/** Promises 9 to 17: words changed, put in, taken; measures, laws, fees; drawn words; deeds undone. */
public final class DeedsTest {
    private static final Due due = new Due("DeedsTest");

    public static void main(String[] args) {
        change();
        insert();
        insertWhenFull();
        take();
        settings();
        drift();
        undo();
        undoDrift();
        undoLeavesTheRest();
        due.close();
    }

    private static void change() {
        EvenBreaks x = Due.typed("one two three");
        Due.feed(x, " willow ");
        due.is("change(1)", x.change(1), 11);
        due.isText("changed", x, "one willow three");
        due.is("total of 6, 11 and 8 with gaps", x.told(6), 3 * 3);
        due.is("letters behind it", x.told(5), 0);
        Due.feed(x, "ab");
        due.is("change(3)", x.change(3), EvenBreaks.UNKNOWN);
        due.is("change(-1)", x.change(-1), EvenBreaks.UNKNOWN);
        due.is("what is typed stays", x.told(5), 2);
        Due.feed(x, " cd");
        due.is("two words", x.change(0), EvenBreaks.NOT);
        due.is("letters behind NOT", x.told(5), 0);
        due.is("no word", x.change(0), EvenBreaks.NOT);
        Due.feed(x, "  ");
        due.is("blanks alone", x.change(0), EvenBreaks.NOT);
        Due.feed(x, "ab-");
        due.is("a fault", x.change(0), -11);
        due.is("its letter", x.fault(), 2);
        due.is("letters behind a fault", x.told(5), 0);
        Due.feed(x, "?");
        due.is("UNKNOWN goes ahead of a fault", x.change(9), EvenBreaks.UNKNOWN);
        due.is("what is refused changes no fault", x.fault(), 2);
        due.is("now the fault", x.change(0), -11);
        due.is("at 0", x.fault(), 0);
        Due.feed(x, "a b");
        x.change(0);
        due.is("NOT is no fault", x.fault(), EvenBreaks.NONE);
        Due.feed(x, "a b c abcdefghijklm");
        due.is("a fault goes ahead of NOT", x.change(0), -12);
        due.isText("refused", x, "one willow three");
        due.is("deeds", x.told(18), 2);
    }

    private static void insert() {
        EvenBreaks x = new EvenBreaks();
        Due.feed(x, "b");
        due.is("insert(1) into none", x.insert(1), EvenBreaks.UNKNOWN);
        due.is("what is typed stays", x.told(5), 1);
        due.is("insert(0) into none", x.insert(0), 2);
        due.is("its total", x.told(6), 28 * 28);
        Due.feed(x, "am");
        due.is("ahead", x.insert(0), 5);
        Due.feed(x, "til");
        due.is("behind all", x.insert(2), 3);
        Due.feed(x, "z");
        due.is("between", x.insert(1), 2);
        due.isText("put in", x, "am z b til");
        due.is("insert(-1)", x.insert(-1), EvenBreaks.UNKNOWN);
        due.is("nothing typed", x.insert(0), EvenBreaks.NOT);
        Due.feed(x, "a b");
        due.is("two words", x.insert(0), EvenBreaks.NOT);
        Due.feed(x, "a b A");
        due.is("a fault", x.insert(0), -11);
        due.is("its letter", x.fault(), 4);
        due.isText("refused", x, "am z b til");
        due.is("deeds", x.told(18), 4);
    }

    private static void insertWhenFull() {
        EvenBreaks x = Due.typed("a ".repeat(40));
        Due.feed(x, "b");
        due.is("no 41st word", x.insert(40), EvenBreaks.FULL);
        due.is("letters behind FULL", x.told(5), 0);
        Due.feed(x, "b c");
        due.is("NOT goes ahead of FULL", x.insert(0), EvenBreaks.NOT);
        Due.feed(x, "B");
        due.is("a fault goes ahead of FULL", x.insert(0), -11);
        Due.feed(x, "b");
        due.is("FULL is no fault", x.insert(0), EvenBreaks.FULL);
        due.is("fault()", x.fault(), EvenBreaks.NONE);
        due.is("UNKNOWN goes ahead of FULL", x.insert(41), EvenBreaks.UNKNOWN);
        due.is("deeds", x.told(18), 1);
    }

    private static void take() {
        EvenBreaks x = Due.typed("am it b");
        due.is("take(3)", x.take(3), EvenBreaks.UNKNOWN);
        due.is("take(-1)", x.take(-1), EvenBreaks.UNKNOWN);
        due.is("take(1)", x.take(1), 2);
        due.isText("taken", x, "am b");
        due.is("total of 5 and 2", x.told(6), 22 * 22);
        due.is("take(1) again", x.take(1), 2);
        due.is("take(0)", x.take(0), 5);
        due.is("none left", x.told(0), 0);
        due.is("no line left", x.told(7), 0);
        due.is("nothing to take", x.take(0), EvenBreaks.UNKNOWN);
    }

    private static void settings() {
        EvenBreaks x = Due.typed("aaa");
        due.is("measure(0)", x.measure(0), EvenBreaks.OUTSIDE);
        due.is("measure(201)", x.measure(201), EvenBreaks.OUTSIDE);
        due.is("measure(1)", x.measure(1), 25);
        due.is("measure(200)", x.measure(200), 194 * 194);
        due.is("rule(-1)", x.rule(-1), EvenBreaks.OUTSIDE);
        due.is("rule(5)", x.rule(5), EvenBreaks.OUTSIDE);
        due.is("rule(3)", x.rule(3), 38);
        due.is("fee(-1)", x.fee(-1), EvenBreaks.OUTSIDE);
        due.is("fee(100)", x.fee(100), EvenBreaks.OUTSIDE);
        due.is("fee(99)", x.fee(99), 137);
        due.is("fee(0)", x.fee(0), 38);
        due.is("free(true)", x.free(true), 0);
        due.is("free(false)", x.free(false), 38);
        due.is("measure", x.told(1), 200);
        due.is("law", x.told(2), 3);
        due.is("fee", x.told(3), 0);
        due.is("free", x.told(4), 0);
        due.is("deeds", x.told(18), 8);
        EvenBreaks none = new EvenBreaks();
        due.is("no words cost nothing", none.fee(99), 0);
        due.is("a fee of a line that is not", none.measure(5), 0);
    }

    private static void drift() {
        EvenBreaks x = new EvenBreaks();
        due.is("drift(0)", x.drift(0), EvenBreaks.OUTSIDE);
        due.is("drift(17)", x.drift(17), EvenBreaks.OUTSIDE);
        due.is("the seed stays", x.seed(0), 0);
        due.is("drift(1)", x.drift(1), 1);
        // The seed 0 becomes 12345 (draw 0: 1 letter), then 1406932606 (21468 left over by 26: 18, an s).
        due.isText("drawn from 0", x, "s");
        due.is("the seed behind two draws", x.seed(7), 1406932606);
        due.is("drift(16)", x.drift(16), 17);
        x.drift(16);
        due.is("drift to 40", x.drift(7), 40);
        due.is("drift when full", x.drift(1), 40);
        String[] was = filled(0).split(" ");
        String[] is = filled(1).split(" ");
        int changed = 0;
        for (int w = 0; w < 40; w++) {
            changed += was[w].equals(is[w]) ? 0 : 1;
        }
        due.is("one word became another", changed, 1);
    }

    /** The words of an object of its own, as each letter takes a call. */
    private static String filled(int more) {
        EvenBreaks x = new EvenBreaks();
        x.seed(7);
        x.drift(16);
        x.drift(16);
        x.drift(8 + more);
        return Due.text(x);
    }

    private static void undo() {
        EvenBreaks x = Due.typed("one two");
        due.is("undo(0)", x.undo(0), EvenBreaks.OUTSIDE);
        due.is("undo(17)", x.undo(17), EvenBreaks.OUTSIDE);
        due.is("undo(2)", x.undo(2), EvenBreaks.NOT);
        Due.feed(x, "zwei");
        x.change(1);
        Due.feed(x, "drei");
        x.insert(2);
        x.take(0);
        x.measure(9);
        x.rule(2);
        x.fee(4);
        x.free(true);
        due.is("deeds", x.told(18), 8);
        due.is("undo free", x.undo(1), 2);
        due.is("not free", x.told(4), 0);
        x.undo(1);
        due.is("fee", x.told(3), 0);
        x.undo(1);
        due.is("law", x.told(2), 0);
        x.undo(1);
        due.is("measure", x.told(1), 30);
        due.isText("taken", x, "zwei drei");
        due.is("undo take", x.undo(1), 3);
        due.isText("put in", x, "one zwei drei");
        due.is("undo insert, change", x.undo(2), 2);
        due.isText("typed", x, "one two");
        due.is("left to undo", x.told(18), 1);
        due.is("total as ahead", x.told(6), (30 - 13) * (30 - 13));
        due.is("undo type", x.undo(1), 0);
        due.is("nothing left", x.undo(1), EvenBreaks.NOT);
        due.is("nothing left, outside", x.undo(17), EvenBreaks.OUTSIDE);
        for (int m = 1; m <= 20; m++) {
            x.measure(m);
        }
        due.is("16 are kept", x.told(18), 16);
        due.is("undo all", x.undo(16), 0);
        due.is("back to the 4th", x.told(1), 4);
    }

    private static void undoDrift() {
        EvenBreaks x = new EvenBreaks();
        x.drift(3);
        String three = Due.text(x);
        x.drift(5);
        due.is("each time is a deed", x.told(18), 8);
        int seed = x.seed(0);
        x.seed(seed);
        due.is("undo five", x.undo(5), 3);
        due.isText("three again", x, three);
        due.is("the seed stays", x.seed(0), seed);
        x.drift(16);
        due.is("16 at most", x.told(18), 16);
        due.is("undo(16)", x.undo(16), 3);
        due.isText("three once more", x, three);
    }

    private static void undoLeavesTheRest() {
        EvenBreaks x = Due.typed("one two");
        x.see(1, true);
        x.write(0, 0);
        Due.feed(x, "?");
        x.type();
        Due.feed(x, "abc");
        x.undo(1);
        due.is("what is typed", x.told(5), 3);
        due.is("the fault of the latest type()", x.fault(), 0);
        due.is("what is seen", x.told(11), 1);
        due.is("the book", x.told(16), 1);
    }
}

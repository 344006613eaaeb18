/** Promises 26 to 28: the seed and the images. */
public final class ImagesTest {
    private static final Due due = new Due("ImagesTest");

    public static void main(String[] args) {
        seed();
        refusals();
        images();
        imagesAreApart();
        imagesKeepNothingElse();
        due.close();
    }

    private static void seed() {
        EvenBreaks x = new EvenBreaks();
        due.is("seed(5)", x.seed(5), 0);
        due.is("seed(-1)", x.seed(-1), EvenBreaks.OUTSIDE);
        due.is("the least", x.seed(Integer.MIN_VALUE), EvenBreaks.OUTSIDE);
        due.is("seed(2147483647)", x.seed(2147483647), 5);
        due.is("drift from the greatest", x.drift(1), 1);
        due.is("a seed is no deed", x.told(18), 1);
        EvenBreaks y = new EvenBreaks();
        y.seed(2147483647);
        y.drift(1);
        due.isText("the same draws", y, Due.text(x));
        due.is("the same seed", x.seed(0), y.seed(0));
    }

    private static void refusals() {
        EvenBreaks x = new EvenBreaks();
        for (int i : new int[] {-1, 2, Integer.MAX_VALUE, Integer.MIN_VALUE}) {
            due.is("keep(" + i + ")", x.keep(i), EvenBreaks.UNKNOWN);
            due.is("goBack(" + i + ")", x.goBack(i), EvenBreaks.UNKNOWN);
        }
        x.measure(9);
        due.is("goBack(0)", x.goBack(0), EvenBreaks.NOT);
        due.is("goBack(1)", x.goBack(1), EvenBreaks.NOT);
        due.is("what is refused changes nothing", x.told(1) * 100 + x.told(18), 901);
        due.is("keep(1)", x.keep(1), 1);
        due.is("goBack(0) is still NOT", x.goBack(0), EvenBreaks.NOT);
    }

    private static void images() {
        EvenBreaks x = Due.typed("one two");
        x.measure(12);
        x.rule(1);
        x.fee(8);
        x.free(true);
        x.seed(99);
        due.is("keep(0)", x.keep(0), 1);
        due.is("nothing can be undone", x.told(18), 0);
        due.is("undo(1)", x.undo(1), EvenBreaks.NOT);
        x.measure(50);
        x.rule(4);
        x.fee(1);
        x.free(false);
        x.drift(3);
        due.is("deeds since", x.told(18), 7);
        due.is("goBack(0)", x.goBack(0), 1);
        due.isText("gone back", x, "one two");
        due.is("measure", x.told(1), 12);
        due.is("law", x.told(2), 1);
        due.is("fee", x.told(3), 8);
        due.is("free", x.told(4), 1);
        due.is("total", x.told(6), 9);
        due.is("nothing can be undone behind it", x.told(18), 0);
        due.is("seed", x.seed(0), 99);
        x.take(0);
        due.is("goBack(0) again", x.goBack(0), 1);
        due.isText("gone back again", x, "one two");
        due.is("seed again", x.seed(3), 99);
    }

    private static void imagesAreApart() {
        EvenBreaks x = Due.typed("one");
        x.keep(0);
        Due.feed(x, "two two");
        x.type();
        x.keep(1);
        Due.feed(x, "three three three");
        x.type();
        x.goBack(0);
        due.isText("image 0", x, "one");
        x.goBack(1);
        due.isText("image 1", x, "two two");
        x.take(0);
        x.keep(0);
        x.goBack(1);
        x.goBack(0);
        due.isText("image 0 anew", x, "two");
    }

    private static void imagesKeepNothingElse() {
        EvenBreaks x = Due.typed("one two");
        x.keep(0);
        x.see(1, true);
        x.write(1, 1);
        Due.feed(x, "?");
        x.type();
        Due.feed(x, "abc");
        x.goBack(0);
        due.is("what is seen", x.told(11), 1);
        due.is("the book", x.told(16), 1);
        due.is("what is typed", x.told(5), 3);
        due.is("the fault of the latest type()", x.fault(), 0);
    }
}

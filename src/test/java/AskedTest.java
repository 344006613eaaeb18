/** Promises 18 to 22: what lines cost, whether a law is even, owners known to a place, so many lines, the best measure. */
public final class AskedTest {
    private static final Due due = new Due("AskedTest");

    public static void main(String[] args) {
        cost();
        first();
        firstAgainstAllFours();
        known();
        with();
        withAgainstAllBreaks();
        best();
        due.close();
    }

    private static void cost() {
        EvenBreaks x = Due.typed("aaa bb c");
        due.is("one word", x.cost(0, 1), 24 * 24);
        due.is("two words", x.cost(0, 2), 19 * 19);
        due.is("three words", x.cost(0, 3), 16 * 16);
        due.is("the last word", x.cost(2, 3), 28 * 28);
        due.is("not later", x.cost(1, 1), EvenBreaks.UNKNOWN);
        due.is("earlier", x.cost(2, 1), EvenBreaks.UNKNOWN);
        due.is("no END 4", x.cost(0, 4), EvenBreaks.UNKNOWN);
        due.is("no END -1", x.cost(-1, 2), EvenBreaks.UNKNOWN);
        due.is("asked is no deed", x.told(18), 1);
    }

    private static void first() {
        EvenBreaks x = Due.typed("a b c");
        due.is("even", x.first(0), EvenBreaks.NONE);
        // 0 to 2 and 1 to 3 cost 25 * 25 twice; 0 to 3 and 1 to 2 cost 22 * 22 and 28 * 28: more.
        due.is("not odd", x.first(1), ((1 * 41 + 2) * 41 + 3) * 41 + 4);
        due.is("told even", x.told(8), 1);
        due.is("told odd", x.told(9), 0);
        due.is("first(-1)", x.first(-1), EvenBreaks.OUTSIDE);
        due.is("first(2)", x.first(2), EvenBreaks.OUTSIDE);
        // Law 4 bends the other way while lines fit: 50 and 50 are more than 46 and 52.
        x.rule(4);
        due.is("not even", x.first(0), ((1 * 41 + 2) * 41 + 3) * 41 + 4);
        due.is("odd", x.first(1), EvenBreaks.NONE);
        due.is("told not even", x.told(8), 0);
        due.is("told odd now", x.told(9), 1);
        EvenBreaks two = Due.typed("a b");
        due.is("two words are even", two.told(8), 1);
        due.is("and odd", two.told(9), 1);
    }

    private static void firstAgainstAllFours() {
        for (int run = 1; run <= 60; run++) {
            EvenBreaks x = new EvenBreaks();
            x.seed(run);
            x.drift(1 + run % 12);
            x.rule(run % 5);
            x.free(run % 2 == 0);
            x.measure(10 + run * 3 % 90);
            int[][] costs = costs(x);
            due.is("first even of run " + run, x.first(0), firstByDefinition(costs, 1));
            due.is("first odd of run " + run, x.first(1), firstByDefinition(costs, -1));
        }
    }

    /** What every line costs, asked once: behind its 512th call nothing is promised of an object. */
    private static int[][] costs(EvenBreaks x) {
        int last = x.told(0);
        int[][] costs = new int[last + 1][last + 1];
        for (int i = 0; i < last; i++) {
            for (int j = i + 1; j <= last; j++) {
                costs[i][j] = x.cost(i, j);
            }
        }
        return costs;
    }

    private static int firstByDefinition(int[][] costs, int sign) {
        int last = costs.length - 1;
        for (int i = 0; i <= last; i++) {
            for (int k = i + 1; k <= last; k++) {
                for (int j = k + 1; j <= last; j++) {
                    for (int l = j + 1; l <= last; l++) {
                        int apart = costs[i][j] + costs[k][l] - costs[i][l] - costs[k][j];
                        if (apart * sign > 0) {
                            return (((i + 1) * 41 + k + 1) * 41 + j + 1) * 41 + l + 1;
                        }
                    }
                }
            }
        }
        return EvenBreaks.NONE;
    }

    private static void known() {
        EvenBreaks x = Due.typed("aaa bbb ccc");
        x.measure(13);
        x.rule(2);
        due.is("known to 0", x.known(3, 0), 0);
        due.is("known to 1", x.known(3, 1), 1);
        due.is("known to 2: of like ones the least", x.known(3, 2), 1);
        due.is("end 2", x.known(2, 1), 0);
        due.is("t not ahead", x.known(2, 2), EvenBreaks.UNKNOWN);
        due.is("t behind", x.known(1, 2), EvenBreaks.UNKNOWN);
        due.is("no END 4", x.known(4, 0), EvenBreaks.UNKNOWN);
        due.is("no END -1", x.known(1, -1), EvenBreaks.UNKNOWN);
        due.is("none of END 0", x.known(0, 0), EvenBreaks.UNKNOWN);
    }

    private static void with() {
        EvenBreaks x = Due.typed("aaa bbb ccc");
        x.measure(13);
        due.is("one line", x.with(1), 49);
        due.is("two lines", x.with(2), 49);
        due.is("three lines", x.with(3), 147);
        due.is("four lines", x.with(4), EvenBreaks.NONE);
        due.is("40 lines", x.with(40), EvenBreaks.NONE);
        due.is("41 lines", x.with(41), EvenBreaks.OUTSIDE);
        due.is("no lines", x.with(0), EvenBreaks.OUTSIDE);
        due.is("no words", new EvenBreaks().with(1), EvenBreaks.NONE);
        EvenBreaks most = Due.typed("a ".repeat(40));
        due.is("40 words on 40 lines", most.with(40), 40 * 28 * 28);
    }

    /** Totals, owners and totals with so many lines, by trying every way to break small texts. */
    private static void withAgainstAllBreaks() {
        for (int run = 1; run <= 80; run++) {
            EvenBreaks x = new EvenBreaks();
            x.seed(run * 31);
            int words = x.drift(1 + run % 10);
            x.rule(run % 5);
            x.fee(run % 7);
            x.free(run % 3 == 0);
            x.measure(1 + run * 7 % 120);
            int[][] costs = costs(x);
            long[] least = new long[words + 1];
            java.util.Arrays.fill(least, Long.MAX_VALUE);
            for (int breaks = 0; breaks < 1 << (words - 1); breaks++) {
                int lines = Integer.bitCount(breaks) + 1;
                least[lines] = Math.min(least[lines], costOfBreaks(costs, breaks));
            }
            long total = Long.MAX_VALUE;
            for (int k = 1; k <= words; k++) {
                due.is("run " + run + " with " + k, x.with(k), least[k]);
                total = Math.min(total, least[k]);
            }
            due.is("total of run " + run, x.told(6), total);
        }
    }

    private static long costOfBreaks(int[][] costs, int breaks) {
        int words = costs.length - 1;
        long sum = 0;
        int from = 0;
        for (int e = 1; e <= words; e++) {
            if (e == words || (breaks >> (e - 1) & 1) == 1) {
                sum += costs[from][e];
                from = e;
            }
        }
        return sum;
    }

    private static void best() {
        EvenBreaks x = Due.typed("aaa bbb");
        due.is("one line or two: the least", x.best(1, 200, 0), 6);
        due.is("at no cost", x.best(1, 200, 1), 0);
        due.is("one line", x.best(7, 200, 0), 13);
        due.is("the last of them", x.best(7, 13, 0), 13);
        due.is("the second of two", x.best(12, 13, 0), 13);
        due.is("the first of two", x.best(13, 14, 0), 13);
        due.is("wide ones", x.best(20, 30, 0), 20);
        due.is("their total", x.best(20, 30, 1), 49);
        due.is("one measure", x.best(200, 200, 0), 200);
        due.is("its total", x.best(200, 200, 1), 187 * 187);
        due.is("the measure is as it was", x.told(1), 30);
        due.is("a above b", x.best(31, 30, 0), EvenBreaks.OUTSIDE);
        due.is("a 0", x.best(0, 30, 0), EvenBreaks.OUTSIDE);
        due.is("b 201", x.best(1, 201, 0), EvenBreaks.OUTSIDE);
        due.is("what 2", x.best(1, 30, 2), EvenBreaks.OUTSIDE);
        due.is("what -1", x.best(1, 30, -1), EvenBreaks.OUTSIDE);
        EvenBreaks none = new EvenBreaks();
        due.is("no words: the least measure", none.best(5, 9, 0), 5);
        due.is("no words: no cost", none.best(5, 9, 1), 0);
        x.fee(3);
        due.is("with a fee one line is better", x.best(1, 200, 0), 13);
    }
}

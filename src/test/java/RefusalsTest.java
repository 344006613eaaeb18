import java.util.ArrayList;
import java.util.LinkedHashMap;
import java.util.List;
import java.util.Map;

/**
 * Terms: "REFUSALS, of several the first in this order" and "What is refused changes nothing." Every refusal of every
 * call, in a new object, in one with something of everything, and in one that is full; then refusals that meet.
 */
public final class RefusalsTest {
    private static final Due due = new Due("RefusalsTest");
    private static final int NONE = EvenBreaks.NONE;
    private static final int UNKNOWN = EvenBreaks.UNKNOWN;
    private static final int OUTSIDE = EvenBreaks.OUTSIDE;
    private static final int NOT = EvenBreaks.NOT;
    private static final int FULL = EvenBreaks.FULL;
    private static final int MAX = Integer.MAX_VALUE;
    private static final int MIN = Integer.MIN_VALUE;

    private static final List<String> NEW = List.of();

    /** Three words, a fault, two letters typed, deeds that can be undone, an image, things seen, a book. */
    private static final List<String> SOME = List.of(
        "'one two three", "type", "measure 13", "rule 2", "fee 7", "free 1", "seed 99", "keep 0",
        "'zwei", "change 1", "take 2", "drift 1", "measure 17", "see 1 1", "see 2 0", "write 0 0", "write 1 2",
        "'ab?", "type", "'ab");

    private static final List<String> FILLED = filled();

    public static void main(String[] args) {
        everywhere("a new object", NEW, 0);
        everywhere("some words", SOME, 3);
        everywhere("all full", FILLED, 40);
        whenNew();
        whenFull();
        unknownGoesFirst();
        outsideGoesSecond();
        notGoesThird();
        faultsAmongRefusals();
        readingEmptiesWhatIsTyped();
        refusalsAreFarBelow();
        due.close();
    }

    /** 40 words, 240 letters, 6 seen, 20 entries, 16 deeds, 2 images. */
    private static List<String> filled() {
        List<String> calls = new ArrayList<>(List.of("seed 3", "drift 16", "drift 16", "keep 0", "fee 3", "keep 1", "drift 16"));
        calls.add("'" + "b".repeat(240));
        for (int i = 0; i < 6; i++) {
            calls.add("see " + i * 3 + " " + (i == 0 ? 1 : 0));
        }
        for (int i = 0; i < 20; i++) {
            calls.add("write " + i + " " + (i == 0 ? 0 : 2 * i));
        }
        return calls;
    }

    /** The refusals that do not hang on what is typed, seen or written; each must leave all as it was. */
    private static void everywhere(String where, List<String> calls, int words) {
        Map<String, Integer> refused = new LinkedHashMap<>();
        for (int i : new int[] {-1, 256, MAX, MIN}) {
            refused.put("feed " + i, OUTSIDE);
        }
        for (int what : new int[] {-1, 19, MAX, MIN}) {
            refused.put("told " + what, OUTSIDE);
        }
        for (int none : new int[] {-1, words + 1, MAX, MIN}) {
            refused.put("end " + none + " 0", UNKNOWN);
            refused.put("insert " + none, UNKNOWN);
            refused.put("cost 0 " + none, UNKNOWN);
            refused.put("cost " + none + " " + words, UNKNOWN);
            refused.put("known " + none + " 0", UNKNOWN);
            refused.put("known " + words + " " + none, UNKNOWN);
            refused.put("see " + none + " 1", UNKNOWN);
        }
        for (int none : new int[] {-1, words, MAX, MIN}) {
            refused.put("word " + none + " 0", UNKNOWN);
            refused.put("change " + none, UNKNOWN);
            refused.put("take " + none, UNKNOWN);
        }
        for (int none : new int[] {-1, 40, MAX, MIN}) {
            refused.put("line " + none + " 0", UNKNOWN);
        }
        for (int none : new int[] {-2, words + 1, MAX, MIN}) {
            refused.put("write 0 " + none, UNKNOWN);
        }
        for (int e = 0; e <= words; e += Math.max(1, words)) {
            refused.put("cost " + e + " " + e, UNKNOWN);
            refused.put("known " + e + " " + e, UNKNOWN);
        }
        for (int none : new int[] {-1, 2, MAX, MIN}) {
            refused.put("keep " + none, UNKNOWN);
            refused.put("goBack " + none, UNKNOWN);
        }
        outside(refused);
        leaveAll(where, calls, refused);
    }

    private static void outside(Map<String, Integer> refused) {
        int[][] bounds = {{1, 200}, {0, 4}, {0, 99}, {1, 16}, {1, 16}, {0, 1}, {1, 40}};
        String[] names = {"measure", "rule", "fee", "drift", "undo", "first", "with"};
        for (int i = 0; i < names.length; i++) {
            for (int out : new int[] {bounds[i][0] - 1, bounds[i][1] + 1, MAX, MIN}) {
                refused.put(names[i] + " " + out, OUTSIDE);
            }
        }
        for (int what : new int[] {-1, 3, MAX, MIN}) {
            refused.put("end 0 " + what, OUTSIDE);
        }
        for (int k : new int[] {-1, 40, MAX, MIN}) {
            refused.put("write " + k + " 0", OUTSIDE);
            refused.put("write " + k + " -1", OUTSIDE);
        }
        String[] best = {
            "0 200 0", "1 201 0", "2 1 0", "200 199 1", "1 200 2", "1 200 -1", "0 0 0", "201 201 1", "201 0 0", "-1 1 0",
            MIN + " " + MAX + " 0", MAX + " " + MIN + " 1", "1 " + MAX + " 0", MIN + " 200 0", "1 200 " + MAX, "1 200 " + MIN};
        for (String numbers : best) {
            refused.put("best " + numbers, OUTSIDE);
        }
        refused.put("seed -1", OUTSIDE);
        refused.put("seed " + MIN, OUTSIDE);
    }

    private static void leaveAll(String where, List<String> calls, Map<String, Integer> refused) {
        List<String> asItWas = Everything.behind(calls);
        for (Map.Entry<String, Integer> one : refused.entrySet()) {
            due.is(where + ": " + one.getKey(), new Run(calls).call(one.getKey()), one.getValue());
        }
        // One behind the other, in parts that leave calls to ask with.
        int part = 40;
        List<String> told = new ArrayList<>(refused.keySet());
        for (int from = 0; from < told.size(); from += part) {
            List<String> some = told.subList(from, Math.min(told.size(), from + part));
            due.same(where + ", refused " + some, Everything.behind(Run.with(calls, some.toArray(new String[0]))), asItWas);
        }
    }

    private static void whenNew() {
        Map<String, Integer> refused = new LinkedHashMap<>();
        for (int n = 1; n <= 16; n++) {
            refused.put("undo " + n, NOT);
        }
        refused.put("goBack 0", NOT);
        refused.put("goBack 1", NOT);
        refused.put("line 0 0", UNKNOWN);
        leaveAll("new", NEW, refused);
        // One image is kept, the other is not; there are four deeds, so that five are too many.
        Map<String, Integer> some = new LinkedHashMap<>();
        some.put("goBack 1", NOT);
        some.put("undo 5", NOT);
        some.put("undo 16", NOT);
        for (int what : new int[] {-1, 16, MAX, MIN}) {
            some.put("word 0 " + what, OUTSIDE);
            some.put("word 2 " + what, OUTSIDE);
        }
        for (int what : new int[] {-1, 4, MAX, MIN}) {
            some.put("line 0 " + what, OUTSIDE);
        }
        due.is("deeds", new Run(SOME).call("told 18"), 4);
        due.is("lines", new Run(SOME).call("told 7"), 2);
        some.put("line 2 0", UNKNOWN);
        leaveAll("some words, not now", SOME, some);
    }

    private static void whenFull() {
        Map<String, Integer> refused = new LinkedHashMap<>();
        refused.put("feed 97", FULL);
        refused.put("feed 32", FULL);
        refused.put("feed 0", FULL);
        refused.put("feed 255", FULL);
        refused.put("see 0 1", FULL);
        refused.put("see 40 0", FULL);
        refused.put("write 0 0", FULL);
        refused.put("write 39 40", FULL);
        refused.put("write 39 " + NONE, FULL);
        leaveAll("full", FILLED, refused);
    }

    private static void unknownGoesFirst() {
        due.row(new Run(SOME),
            "word 3 16", UNKNOWN, "word -1 -1", UNKNOWN, "word 2 16", OUTSIDE,
            "end 4 3", UNKNOWN, "end -1 -1", UNKNOWN, "end 3 3", OUTSIDE,
            "line 2 4", UNKNOWN, "line -1 -1", UNKNOWN, "line 1 4", OUTSIDE,
            "write 40 4", UNKNOWN, "write -1 -2", UNKNOWN, "write 40 3", OUTSIDE);
        due.row(new Run(), "word 0 16", UNKNOWN, "line 0 4", UNKNOWN, "end 1 3", UNKNOWN, "write 40 1", UNKNOWN);
        // No word typed, two typed: NOT, were there such a WORD.
        due.row(new Run(), "change 0", UNKNOWN, "insert 1", UNKNOWN, "insert 0", NOT);
        due.row(new Run("'ab", "type", "'c d"), "change 1", UNKNOWN, "insert 2", UNKNOWN, "told 5", 3, "change 0", NOT);
        due.row(new Run(), "goBack 2", UNKNOWN, "goBack -1", UNKNOWN, "goBack 1", NOT);
        due.row(new Run(FILLED), "see 41 1", UNKNOWN, "write 0 41", UNKNOWN, "write 40 41", UNKNOWN);
        due.row(new Run("drift 16", "drift 16", "drift 8", "'a"), "insert 41", UNKNOWN, "insert -1", UNKNOWN, "insert 40", FULL);
    }

    private static void outsideGoesSecond() {
        due.row(new Run(), "undo 17", OUTSIDE, "undo 0", OUTSIDE, "undo 16", NOT, "undo 1", NOT);
        due.row(new Run(FILLED), "feed 256", OUTSIDE, "feed -1", OUTSIDE, "feed 97", FULL,
            "write 40 0", OUTSIDE, "write -1 40", OUTSIDE, "write 40 -1", OUTSIDE, "write 39 -1", FULL);
    }

    private static void notGoesThird() {
        Run run = new Run("drift 16", "drift 16", "drift 8");
        due.row(run, "insert 0", NOT, "'  ", 2, "insert 40", NOT, "'a b", 3, "insert 40", NOT, "'a", 1, "insert 40", FULL);
    }

    private static void faultsAmongRefusals() {
        // A FAULT comes behind UNKNOWN and ahead of NOT and FULL.
        Run run = new Run("drift 16", "drift 16", "drift 8", "'a b C");
        due.row(run, "change 40", UNKNOWN, "insert 41", UNKNOWN, "told 5", 5, "insert 40", -11, "fault", 4, "told 5", 0);
        due.row(run, "'a?", 2, "insert 0", -11, "'abcdefghijklm n", 15, "insert 0", -12, "fault", 12);
        due.row(run, "'a bc ?", 6, "change 39", -11, "fault", 5, "'abcdefghijklmn", 14, "change 0", -12);
        String words41 = "'" + "a ".repeat(40) + "b";
        due.row(run, words41, 81, "change 0", -13, "fault", 80, words41, 81, "insert 0", -13, "fault", 80, "told 18", 16);
    }

    /** "what is typed is empty behind it .. with a FAULT, or where it is NOT, FULL, too", but all else is as it was. */
    private static void readingEmptiesWhatIsTyped() {
        List<String> quiet = List.of("'one two three", "type", "measure 13", "keep 1", "drift 2", "see 1 1", "write 1 2");
        List<String> asItWas = Everything.behind(quiet);
        for (String reader : new String[] {"change 0", "change 4", "insert 0", "insert 5"}) {
            for (String letters : new String[] {"' ", "'a b", "'" + " ".repeat(200), "'" + "a ".repeat(40)}) {
                due.is(letters + " " + reader, new Run(Run.with(quiet, letters)).call(reader), NOT);
                due.same(letters + " " + reader, Everything.behind(Run.with(quiet, letters, reader)), asItWas);
            }
            due.same("nothing typed, " + reader, Everything.behind(Run.with(quiet, reader)), asItWas);
        }
        List<String> forty = List.of("drift 16", "drift 16", "drift 8", "measure 55");
        due.same("FULL", Everything.behind(Run.with(forty, "'abc", "insert 40")), Everything.behind(forty));
        List<String> faulty = Run.with(quiet, "'?", "type");
        List<String> behindFault = Everything.behind(faulty);
        for (String reader : new String[] {"type", "change 0", "insert 0"}) {
            due.same("a fault of " + reader, Everything.behind(Run.with(quiet, "'?ab", reader)), behindFault);
            due.same("a fault twice, " + reader, Everything.behind(Run.with(faulty, "'A", reader)), behindFault);
        }
    }

    private static void refusalsAreFarBelow() {
        int[] refusals = {UNKNOWN, OUTSIDE, NOT, FULL};
        for (int i = 0; i < 4; i++) {
            due.is("refusal " + i, refusals[i], -1000000001 - i);
        }
        due.is("NONE", NONE, -1);
    }
}

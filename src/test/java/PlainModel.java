import java.util.ArrayList;
import java.util.List;

/** The document once more, word by word and with no thought of speed, for the random runs to compare with. */
final class PlainModel {
    private static final int NONE = -1, UNKNOWN = -1000000001, OUTSIDE = -1000000002, NOT = -1000000003, FULL = -1000000004;

    private record State(List<String> words, int measure, int law, int fee, boolean free) {}

    private record Kept(State state, long seed) {}

    private record Sight(int e, boolean begins) {}

    private State now = new State(List.of(), 30, 0, 0, false);
    private String typed = "";
    private int fault = NONE;
    private long seed = 0;
    private final List<State> past = new ArrayList<>();
    private final Kept[] images = new Kept[2];
    private final List<Sight> seen = new ArrayList<>();
    private final List<int[]> book = new ArrayList<>();

    int call(String name, int a, int b, int c) {
        switch (name) {
            case "feed": return feed(a);
            case "type": return type();
            case "fault": return fault;
            case "told": return told(a);
            case "word": return word(a, b);
            case "end": return end(a, b);
            case "line": return line(a, b);
            case "change": return change(a);
            case "insert": return insert(a);
            case "take": return take(a);
            case "measure": return a < 1 || a > 200 ? OUTSIDE : total(become(new State(now.words, a, now.law, now.fee, now.free)));
            case "rule": return a < 0 || a > 4 ? OUTSIDE : total(become(new State(now.words, now.measure, a, now.fee, now.free)));
            case "fee": return a < 0 || a > 99 ? OUTSIDE : total(become(new State(now.words, now.measure, now.law, a, now.free)));
            case "free": return total(become(new State(now.words, now.measure, now.law, now.fee, a == 1)));
            case "drift": return drift(a);
            case "undo": return undo(a);
            case "cost": return !isEnd(a) || !isEnd(b) || b <= a ? UNKNOWN : cost(now, a, b);
            case "first": return a < 0 || a > 1 ? OUTSIDE : firstNot(a == 0);
            case "known": return !isEnd(a) || !isEnd(b) || b >= a ? UNKNOWN : known(a, b);
            case "with": return a < 1 || a > 40 ? OUTSIDE : with(a);
            case "best": return best(a, b, c);
            case "see": return see(a, b == 1);
            case "write": return write(a, b);
            case "tear": return tear();
            case "seed": return seed(a);
            case "keep": return keep(a);
            case "goBack": return goBack(a);
            default: throw new IllegalArgumentException(name);
        }
    }

    private int size() {
        return now.words.size();
    }

    private boolean isWord(int w) {
        return w >= 0 && w < size();
    }

    private boolean isEnd(int e) {
        return e >= 0 && e <= size();
    }

    private State become(State next) {
        past.add(now);
        if (past.size() > 16) {
            past.remove(0);
        }
        now = next;
        return now;
    }

    private State becomeWords(List<String> words) {
        return become(new State(words, now.measure, now.law, now.fee, now.free));
    }

    // ---- words

    private int feed(int letter) {
        if (letter < 0 || letter > 255) {
            return OUTSIDE;
        }
        if (typed.length() == 240) {
            return FULL;
        }
        typed += (char) letter;
        return typed.length();
    }

    /** The FAULT of each letter is told by what stands ahead of it alone. */
    private int readFault() {
        fault = NONE;
        for (int at = 0; at < typed.length(); at++) {
            String upTo = typed.substring(0, at + 1);
            String[] words = upTo.trim().isEmpty() ? new String[0] : upTo.trim().split(" +");
            char letter = typed.charAt(at);
            int number = 0;
            if (letter != ' ' && (letter < 'a' || letter > 'z')) {
                number = 1;
            } else if (letter != ' ' && words[words.length - 1].length() == 13) {
                number = 2;
            } else if (letter != ' ' && words.length == 41) {
                number = 3;
            }
            if (number != 0) {
                fault = at;
                typed = "";
                return -10 - number;
            }
        }
        return 0;
    }

    private List<String> readWords() {
        List<String> words = new ArrayList<>();
        for (String word : typed.split(" ")) {
            if (!word.isEmpty()) {
                words.add(word);
            }
        }
        typed = "";
        return words;
    }

    private int type() {
        int number = readFault();
        if (number != 0) {
            return number;
        }
        becomeWords(readWords());
        return size();
    }

    private int change(int w) {
        if (!isWord(w)) {
            return UNKNOWN;
        }
        int number = readFault();
        if (number != 0) {
            return number;
        }
        List<String> read = readWords();
        if (read.size() != 1) {
            return NOT;
        }
        List<String> words = new ArrayList<>(now.words);
        words.set(w, read.get(0));
        becomeWords(words);
        return width(read.get(0));
    }

    private int insert(int w) {
        if (!isEnd(w)) {
            return UNKNOWN;
        }
        int number = readFault();
        if (number != 0) {
            return number;
        }
        List<String> read = readWords();
        if (read.size() != 1) {
            return NOT;
        }
        if (size() == 40) {
            return FULL;
        }
        List<String> words = new ArrayList<>(now.words);
        words.add(w, read.get(0));
        becomeWords(words);
        return width(read.get(0));
    }

    private int take(int w) {
        if (!isWord(w)) {
            return UNKNOWN;
        }
        List<String> words = new ArrayList<>(now.words);
        String gone = words.remove(w);
        becomeWords(words);
        return width(gone);
    }

    private int draw(int n) {
        seed = (seed * 1103515245L + 12345L) % (1L << 31);
        return (int) (seed / 65536 % n);
    }

    private int drift(int n) {
        if (n < 1 || n > 16) {
            return OUTSIDE;
        }
        for (int i = 0; i < n; i++) {
            int length = draw(12) + 1;
            StringBuilder word = new StringBuilder();
            for (int at = 0; at < length; at++) {
                word.append((char) ('a' + draw(26)));
            }
            List<String> words = new ArrayList<>(now.words);
            if (words.size() < 40) {
                words.add(word.toString());
            } else {
                words.set(draw(40), word.toString());
            }
            becomeWords(words);
        }
        return size();
    }

    private int undo(int n) {
        if (n < 1 || n > 16) {
            return OUTSIDE;
        }
        if (n > past.size()) {
            return NOT;
        }
        for (int i = 0; i < n; i++) {
            now = past.remove(past.size() - 1);
        }
        return size();
    }

    // ---- lines

    private static int width(String word) {
        int width = 0;
        for (char letter : word.toCharArray()) {
            width += "fijlrt".indexOf(letter) >= 0 ? 1 : "mw".indexOf(letter) >= 0 ? 3 : 2;
        }
        return width;
    }

    /** Of a state as widths alone, so that a word may also be wider than its letters. */
    private static int[] widths(State state) {
        return state.words.stream().mapToInt(PlainModel::width).toArray();
    }

    private static int lineWidth(int[] widths, int i, int j) {
        int width = j - i - 1;
        for (int w = i; w < j; w++) {
            width += widths[w];
        }
        return width;
    }

    private static int cost(State state, int i, int j) {
        return cost(state, widths(state), i, j);
    }

    private static int cost(State state, int[] widths, int i, int j) {
        int slack = state.measure - lineWidth(widths, i, j);
        if (state.free && j == widths.length && slack >= 0) {
            return state.fee;
        }
        int below = -slack;
        switch (state.law) {
            case 0: return state.fee + slack * slack;
            case 1: return state.fee + (slack >= 0 ? slack : below);
            case 2: return state.fee + (slack >= 0 ? slack : 20 * below);
            case 3: return state.fee + (slack >= 0 ? slack / 5 : 100 + below);
            default: return state.fee + (slack >= 0 ? (int) Math.floor(Math.sqrt(100.0 * slack)) : below);
        }
    }

    /** Totals in row 0, owners in row 1. */
    private static int[][] solve(State state, int[] widths) {
        int last = widths.length;
        int[][] solved = new int[2][last + 1];
        solved[1][0] = NONE;
        for (int e = 1; e <= last; e++) {
            solved[0][e] = Integer.MAX_VALUE;
            for (int i = 0; i < e; i++) {
                int sum = solved[0][i] + cost(state, widths, i, e);
                if (sum < solved[0][e]) {
                    solved[0][e] = sum;
                    solved[1][e] = i;
                }
            }
        }
        return solved;
    }

    private static int total(State state) {
        return solve(state, widths(state))[0][state.words.size()];
    }

    /** Where lines begin, in order. */
    private static List<Integer> begins(State state, int[] widths) {
        int[] owners = solve(state, widths)[1];
        List<Integer> begins = new ArrayList<>();
        for (int e = widths.length; e != 0; e = owners[e]) {
            begins.add(0, owners[e]);
        }
        return begins;
    }

    private List<Integer> begins() {
        return begins(now, widths(now));
    }

    private State withMeasure(int m) {
        return new State(now.words, m, now.law, now.fee, now.free);
    }

    private int told(int what) {
        switch (what) {
            case 0: return size();
            case 1: return now.measure;
            case 2: return now.law;
            case 3: return now.fee;
            case 4: return now.free ? 1 : 0;
            case 5: return typed.length();
            case 6: return total(now);
            case 7: return begins().size();
            case 8: return firstNot(true) == NONE ? 1 : 0;
            case 9: return firstNot(false) == NONE ? 1 : 0;
            case 10: return rivers();
            case 11: return seen.size();
            case 12: return fitting().size();
            case 13: return fitting().isEmpty() ? NONE : fitting().get(0);
            case 14: return fitting().isEmpty() ? NONE : fitting().get(fitting().size() - 1);
            case 15: return look();
            case 16: return book.size();
            case 17: return wrong();
            case 18: return past.size();
            default: return OUTSIDE;
        }
    }

    private int word(int w, int what) {
        if (!isWord(w)) {
            return UNKNOWN;
        }
        String word = now.words.get(w);
        switch (what) {
            case 0: return width(word);
            case 1: return word.length();
            case 2: return (int) begins().stream().filter(e -> e <= w).count() - 1;
            case 3: return grows(w);
            default: return what < 0 || what > 15 ? OUTSIDE : what - 4 < word.length() ? word.charAt(what - 4) : NONE;
        }
    }

    private int grows(int w) {
        for (int by = 1; by <= 50; by++) {
            int[] widths = widths(now);
            widths[w] += by;
            if (!begins(now, widths).equals(begins())) {
                return by;
            }
        }
        return NONE;
    }

    private int end(int e, int what) {
        if (!isEnd(e)) {
            return UNKNOWN;
        }
        if (what < 0 || what > 2) {
            return OUTSIDE;
        }
        if (what < 2) {
            return solve(now, widths(now))[what][e];
        }
        int runs = 0;
        for (int later = e + 1; later <= size(); later++) {
            runs += later == e + 1 || known(later, e) != known(later - 1, e) ? 1 : 0;
        }
        return runs;
    }

    private int known(int e, int t) {
        int[] totals = solve(now, widths(now))[0];
        int from = 0;
        for (int i = 1; i <= t; i++) {
            if (totals[i] + cost(now, i, e) < totals[from] + cost(now, from, e)) {
                from = i;
            }
        }
        return from;
    }

    private int line(int k, int what) {
        List<Integer> begins = begins();
        if (k < 0 || k >= begins.size()) {
            return UNKNOWN;
        }
        int from = begins.get(k);
        int to = k + 1 < begins.size() ? begins.get(k + 1) : size();
        switch (what) {
            case 0: return from;
            case 1: return to;
            case 2: return lineWidth(widths(now), from, to);
            case 3: return cost(now, from, to);
            default: return OUTSIDE;
        }
    }

    private int firstNot(boolean even) {
        int last = size();
        int[][] costs = new int[last + 1][last + 1];
        for (int i = 0; i <= last; i++) {
            for (int j = i + 1; j <= last; j++) {
                costs[i][j] = cost(now, i, j);
            }
        }
        for (int i = 0; i <= last; i++) {
            for (int k = i + 1; k <= last; k++) {
                for (int j = k + 1; j <= last; j++) {
                    for (int l = j + 1; l <= last; l++) {
                        int one = costs[i][j] + costs[k][l];
                        int other = costs[i][l] + costs[k][j];
                        if (even ? one > other : one < other) {
                            return (i + 1) * 68921 + (k + 1) * 1681 + (j + 1) * 41 + l + 1;
                        }
                    }
                }
            }
        }
        return NONE;
    }

    private int with(int k) {
        int last = size();
        long[][] least = new long[k + 1][last + 1];
        for (long[] row : least) {
            java.util.Arrays.fill(row, Integer.MAX_VALUE);
        }
        least[0][0] = 0;
        for (int lines = 1; lines <= k; lines++) {
            for (int e = 1; e <= last; e++) {
                for (int i = 0; i < e; i++) {
                    if (least[lines - 1][i] < Integer.MAX_VALUE) {
                        least[lines][e] = Math.min(least[lines][e], least[lines - 1][i] + cost(now, i, e));
                    }
                }
            }
        }
        return least[k][last] == Integer.MAX_VALUE ? NONE : (int) least[k][last];
    }

    private int best(int a, int b, int what) {
        if (a < 1 || a > 200 || b < 1 || b > 200 || a > b || what < 0 || what > 1) {
            return OUTSIDE;
        }
        int best = a;
        for (int m = a; m <= b; m++) {
            if (total(withMeasure(m)) < total(withMeasure(best))) {
                best = m;
            }
        }
        return what == 0 ? best : total(withMeasure(best));
    }

    private int rivers() {
        List<Integer> begins = begins();
        int[] widths = widths(now);
        int rivers = 0;
        List<Integer> above = List.of();
        for (int k = 0; k < begins.size(); k++) {
            int to = k + 1 < begins.size() ? begins.get(k + 1) : size();
            List<Integer> gaps = new ArrayList<>();
            int at = 0;
            for (int w = begins.get(k); w < to - 1; w++) {
                at += widths[w];
                gaps.add(at);
                at++;
            }
            for (int gap : gaps) {
                rivers += above.contains(gap) ? 1 : 0;
            }
            above = gaps;
        }
        return rivers;
    }

    // ---- what is seen, the book, images

    private List<Integer> fitting() {
        List<Integer> fitting = new ArrayList<>();
        int[] widths = widths(now);
        for (int m = 1; m <= 200; m++) {
            List<Integer> begins = begins(withMeasure(m), widths);
            boolean fits = true;
            for (Sight sight : seen) {
                fits = fits && begins.contains(sight.e) == sight.begins;
            }
            if (fits) {
                fitting.add(m);
            }
        }
        return fitting;
    }

    private int look() {
        List<Integer> fitting = fitting();
        int[] parts = new int[size() + 1];
        for (int m : fitting) {
            for (int e : begins(withMeasure(m), widths(now))) {
                parts[e]++;
            }
        }
        int look = NONE;
        for (int e = 0; e <= size(); e++) {
            boolean parted = parts[e] > 0 && parts[e] < fitting.size();
            if (parted && (look == NONE || greater(parts[e], fitting.size()) < greater(parts[look], fitting.size()))) {
                look = e;
            }
        }
        return look;
    }

    private static int greater(int part, int all) {
        return Math.max(part, all - part);
    }

    private int wrong() {
        List<Integer> begins = begins();
        for (int i = 0; i < book.size(); i++) {
            int k = book.get(i)[0];
            int is = k < begins.size() ? begins.get(k) : NONE;
            if (is != book.get(i)[1]) {
                return i;
            }
        }
        return NONE;
    }

    private int see(int e, boolean begins) {
        if (!isEnd(e)) {
            return UNKNOWN;
        }
        if (seen.size() == 6) {
            return FULL;
        }
        seen.add(new Sight(e, begins));
        return seen.size();
    }

    private int write(int k, int e) {
        if (e != NONE && !isEnd(e)) {
            return UNKNOWN;
        }
        if (k < 0 || k > 39) {
            return OUTSIDE;
        }
        if (book.size() == 20) {
            return FULL;
        }
        book.add(new int[] {k, e});
        return book.size();
    }

    private int tear() {
        int had = seen.size() + book.size();
        seen.clear();
        book.clear();
        return had;
    }

    private int seed(int v) {
        if (v < 0) {
            return OUTSIDE;
        }
        int was = (int) seed;
        seed = v;
        return was;
    }

    private int keep(int i) {
        if (i < 0 || i > 1) {
            return UNKNOWN;
        }
        images[i] = new Kept(now, seed);
        past.clear();
        return 1;
    }

    private int goBack(int i) {
        if (i < 0 || i > 1) {
            return UNKNOWN;
        }
        if (images[i] == null) {
            return NOT;
        }
        now = images[i].state;
        seed = images[i].seed;
        past.clear();
        return 1;
    }
}

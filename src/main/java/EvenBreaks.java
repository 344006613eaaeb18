/** Breaks a text into lines that together cost least. The document's promises say what each call answers. */
public final class EvenBreaks {
    public static final int NONE = -1, UNKNOWN = -1000000001, OUTSIDE = -1000000002, NOT = -1000000003, FULL = -1000000004;

    private static final int MOST_WORDS = 40;
    private static final int MOST_ENDS = MOST_WORDS + 1;
    private static final int MOST_LETTERS = 12;
    private static final int MOST_TYPED = 240;
    private static final int MOST_MEASURE = 200;
    private static final int MOST_LAW = 4;
    private static final int MOST_FEE = 99;
    private static final int MOST_GROWTH = 50;
    private static final int MOST_SEEN = 6;
    private static final int MOST_ENTRIES = 20;
    private static final int MOST_UNDONE = 16;
    private static final int MOST_DRIFT = 16;
    private static final int IMAGES = 2;
    private static final int FIGURE = 41;
    private static final int BLANK = 32;
    private static final int FAULT_BASE = -10;
    /** More than any lines can cost together: what is least is looked for from here down. */
    private static final int ABOVE_ALL = 2147483647;

    private final Text text = new Text();
    private final Typed typed = new Typed();
    private final Past past = new Past();
    private final Draws draws = new Draws();
    private final Image[] images = new Image[IMAGES];
    private final Layout now;
    private final Layout trial;
    private final Survey survey;
    private final Book book = new Book();

    public EvenBreaks() {
        int[] roots = tableOfRoots();
        now = new Layout(roots);
        trial = new Layout(roots);
        survey = new Survey();
        for (int i = 0; i < IMAGES; i++) {
            images[i] = new Image();
        }
        layAnew();
    }

    // ---- the text

    public int feed(int letter) {
        if (letter < 0 || letter > 255) {
            return OUTSIDE;
        }
        return typed.add(letter);
    }

    public int type() {
        int fault = typed.read();
        if (fault != 0) {
            return FAULT_BASE - fault;
        }
        past.remember(text);
        text.setWords(typed.words, typed.wordCount);
        layAnew();
        return text.count;
    }

    public int fault() {
        return typed.faultAt;
    }

    public int told(int what) {
        switch (what) {
            case 0: return text.count;
            case 1: return text.measure;
            case 2: return text.law;
            case 3: return text.fee;
            case 4: return text.free ? 1 : 0;
            case 5: return typed.count;
            case 6: return now.lastTotal();
            case 7: return now.lines;
            case 8: return now.firstCrossed(1) == NONE ? 1 : 0;
            case 9: return now.firstCrossed(-1) == NONE ? 1 : 0;
            case 10: return now.rivers();
            case 11: return survey.seen;
            case 12: return surveyed().fitting();
            case 13: return surveyed().leastFitting();
            case 14: return surveyed().greatestFitting();
            case 15: return surveyed().look(text.count);
            case 16: return book.count;
            case 17: return book.firstWrong(now);
            case 18: return past.count;
            default: return OUTSIDE;
        }
    }

    public int word(int w, int what) {
        if (!text.hasWord(w)) {
            return UNKNOWN;
        }
        if (what < 0 || what > 3 + MOST_LETTERS) {
            return OUTSIDE;
        }
        switch (what) {
            case 0: return Spelling.widthOf(text.words[w]);
            case 1: return Spelling.lengthOf(text.words[w]);
            case 2: return now.lineOf(w);
            case 3: return grows(w);
            default: return Spelling.letterAt(text.words[w], what - 4);
        }
    }

    public int end(int e, int what) {
        if (!text.hasEnd(e)) {
            return UNKNOWN;
        }
        switch (what) {
            case 0: return now.total[e];
            case 1: return now.owner[e];
            case 2: return now.runsAt(e);
            default: return OUTSIDE;
        }
    }

    public int line(int k, int what) {
        if (k < 0 || k >= now.lines) {
            return UNKNOWN;
        }
        int from = now.beginOf(k);
        int to = now.endOf(k);
        switch (what) {
            case 0: return from;
            case 1: return to;
            case 2: return now.widthOf(from, to);
            case 3: return now.price(from, to);
            default: return OUTSIDE;
        }
    }

    // ---- deeds

    public int change(int w) {
        if (!text.hasWord(w)) {
            return UNKNOWN;
        }
        int refusal = readOneWord();
        if (refusal != 0) {
            return refusal;
        }
        past.remember(text);
        text.words[w] = typed.words[0];
        layAnew();
        return Spelling.widthOf(text.words[w]);
    }

    public int insert(int w) {
        if (!text.hasEnd(w)) {
            return UNKNOWN;
        }
        int refusal = readOneWord();
        if (refusal != 0) {
            return refusal;
        }
        if (text.count >= MOST_WORDS) {
            return FULL;
        }
        past.remember(text);
        text.putIn(w, typed.words[0]);
        layAnew();
        return Spelling.widthOf(typed.words[0]);
    }

    public int take(int w) {
        if (!text.hasWord(w)) {
            return UNKNOWN;
        }
        int width = Spelling.widthOf(text.words[w]);
        past.remember(text);
        text.takeOut(w);
        layAnew();
        return width;
    }

    public int measure(int m) {
        if (m < 1 || m > MOST_MEASURE) {
            return OUTSIDE;
        }
        past.remember(text);
        text.measure = m;
        layAnew();
        return now.lastTotal();
    }

    public int rule(int l) {
        if (l < 0 || l > MOST_LAW) {
            return OUTSIDE;
        }
        past.remember(text);
        text.law = l;
        layAnew();
        return now.lastTotal();
    }

    public int fee(int f) {
        if (f < 0 || f > MOST_FEE) {
            return OUTSIDE;
        }
        past.remember(text);
        text.fee = f;
        layAnew();
        return now.lastTotal();
    }

    public int free(boolean is) {
        past.remember(text);
        text.free = is;
        layAnew();
        return now.lastTotal();
    }

    public int drift(int n) {
        if (n < 1 || n > MOST_DRIFT) {
            return OUTSIDE;
        }
        for (int i = 0; i < n; i++) {
            past.remember(text);
            driftOnce();
        }
        layAnew();
        return text.count;
    }

    public int undo(int n) {
        if (n < 1 || n > MOST_UNDONE) {
            return OUTSIDE;
        }
        if (n > past.count) {
            return NOT;
        }
        past.giveBack(n, text);
        layAnew();
        return text.count;
    }

    // ---- asked

    public int cost(int i, int j) {
        if (!text.hasEnd(i) || !text.hasEnd(j) || j <= i) {
            return UNKNOWN;
        }
        return now.price(i, j);
    }

    public int first(int what) {
        switch (what) {
            case 0: return now.firstCrossed(1);
            case 1: return now.firstCrossed(-1);
            default: return OUTSIDE;
        }
    }

    public int known(int e, int t) {
        if (!text.hasEnd(e) || !text.hasEnd(t) || t >= e) {
            return UNKNOWN;
        }
        return now.ownerKnownTo(e, t);
    }

    public int with(int k) {
        if (k < 1 || k > MOST_WORDS) {
            return OUTSIDE;
        }
        return now.leastWithLines(k);
    }

    public int best(int a, int b, int what) {
        if (a < 1 || b > MOST_MEASURE || a > b || what < 0 || what > 1) {
            return OUTSIDE;
        }
        Survey all = surveyed();
        int m = all.bestMeasure(a, b);
        return what == 0 ? m : all.totalBy[m];
    }

    // ---- what is seen, the book

    public int see(int e, boolean begins) {
        if (!text.hasEnd(e)) {
            return UNKNOWN;
        }
        return survey.note(e, begins);
    }

    public int write(int k, int e) {
        if (e != NONE && !text.hasEnd(e)) {
            return UNKNOWN;
        }
        if (k < 0 || k >= MOST_WORDS) {
            return OUTSIDE;
        }
        return book.add(k, e);
    }

    public int tear() {
        int had = survey.seen + book.count;
        survey.forget();
        book.count = 0;
        return had;
    }

    // ---- images

    public int seed(int v) {
        if (v < 0) {
            return OUTSIDE;
        }
        int was = draws.state;
        draws.state = v;
        return was;
    }

    public int keep(int i) {
        if (i < 0 || i >= IMAGES) {
            return UNKNOWN;
        }
        images[i].text.become(text);
        images[i].state = draws.state;
        images[i].kept = true;
        past.count = 0;
        return 1;
    }

    public int goBack(int i) {
        if (i < 0 || i >= IMAGES) {
            return UNKNOWN;
        }
        if (!images[i].kept) {
            return NOT;
        }
        text.become(images[i].text);
        draws.state = images[i].state;
        past.count = 0;
        layAnew();
        return 1;
    }

    // ---- what the calls share

    private void layAnew() {
        now.load(text);
        now.solve();
        survey.isFresh = false;
    }

    /** Laying a text out by all 200 measures is dear, so it is done once for each state that is asked of. */
    private Survey surveyed() {
        if (!survey.isFresh) {
            trial.load(text);
            survey.fill(trial);
        }
        return survey;
    }

    /** Reads what is typed; 0 where it is just one WORD, else the refusal. */
    private int readOneWord() {
        int fault = typed.read();
        if (fault != 0) {
            return FAULT_BASE - fault;
        }
        return typed.wordCount == 1 ? 0 : NOT;
    }

    private void driftOnce() {
        long word = draws.drawWord();
        if (text.count < MOST_WORDS) {
            text.putIn(text.count, word);
        } else {
            text.words[draws.draw(MOST_WORDS)] = word;
        }
    }

    private int grows(int w) {
        trial.load(text);
        for (int by = 1; by <= MOST_GROWTH; by++) {
            trial.widen(w, 1);
            trial.solve();
            if (trial.begins != now.begins) {
                return by;
            }
        }
        return NONE;
    }

    /** The whole roots of 100 times each SLACK that there can be, so that LAW 4 needs no search for each line. */
    private static int[] tableOfRoots() {
        int[] roots = new int[MOST_MEASURE];
        int root = 0;
        for (int slack = 0; slack < MOST_MEASURE; slack++) {
            while (root < MOST_MEASURE && (root + 1) * (root + 1) <= 100 * slack) {
                root++;
            }
            roots[slack] = root;
        }
        return roots;
    }

    /** A word as one number, five bits a letter (1 is a, 0 is none): images and undone deeds then cost little room. */
    private static final class Spelling {
        private static final int BITS = 5;
        private static final int MASK = 31;

        static long withLetter(long word, int at, int letter) {
            return word | ((long) (letter - 'a' + 1) << (BITS * at));
        }

        static int letterAt(long word, int at) {
            int figure = (int) (word >> (BITS * at)) & MASK;
            return figure == 0 ? NONE : 'a' + figure - 1;
        }

        static int lengthOf(long word) {
            int length = 0;
            while (length < MOST_LETTERS && letterAt(word, length) != NONE) {
                length++;
            }
            return length;
        }

        static int widthOf(long word) {
            int width = 0;
            int length = lengthOf(word);
            for (int at = 0; at < length; at++) {
                width += letterWidth(letterAt(word, at));
            }
            return width;
        }

        private static int letterWidth(int letter) {
            switch (letter) {
                case 'f':
                case 'i':
                case 'j':
                case 'l':
                case 'r':
                case 't':
                    return 1;
                case 'm':
                case 'w':
                    return 3;
                default:
                    return 2;
            }
        }
    }

    /** All that can be undone and that an image keeps: the words, and by what they are broken. */
    private static final class Text {
        final long[] words = new long[MOST_WORDS];
        int count = 0;
        int measure = 30;
        int law = 0;
        int fee = 0;
        boolean free = false;

        boolean hasWord(int w) {
            return w >= 0 && w < count;
        }

        boolean hasEnd(int e) {
            return e >= 0 && e <= count;
        }

        void become(Text other) {
            setWords(other.words, other.count);
            measure = other.measure;
            law = other.law;
            fee = other.fee;
            free = other.free;
        }

        void setWords(long[] from, int howMany) {
            System.arraycopy(from, 0, words, 0, howMany);
            count = howMany;
        }

        void putIn(int w, long word) {
            if (count >= MOST_WORDS || !hasEnd(w)) {
                return;
            }
            for (int at = count; at > w; at--) {
                words[at] = words[at - 1];
            }
            words[w] = word;
            count++;
        }

        void takeOut(int w) {
            if (!hasWord(w)) {
                return;
            }
            for (int at = w + 1; at < count; at++) {
                words[at - 1] = words[at];
            }
            count--;
        }
    }

    /** The letters that are typed, and the words that they were last read as. */
    private static final class Typed {
        final int[] letters = new int[MOST_TYPED];
        final long[] words = new long[MOST_WORDS];
        int count = 0;
        int wordCount = 0;
        int faultAt = NONE;

        int add(int letter) {
            if (count >= MOST_TYPED) {
                return FULL;
            }
            letters[count] = letter;
            count++;
            return count;
        }

        /** Reads the letters as words and empties them; the number of the FAULT, or 0. */
        int read() {
            wordCount = 0;
            faultAt = NONE;
            int length = 0;
            int fault = 0;
            for (int at = 0; at < count && fault == 0; at++) {
                int letter = letters[at];
                fault = faultOf(letter, length);
                if (fault != 0) {
                    faultAt = at;
                } else if (letter == BLANK) {
                    length = 0;
                } else {
                    addToWord(letter, length);
                    length++;
                }
            }
            count = 0;
            return fault;
        }

        private int faultOf(int letter, int length) {
            if (letter == BLANK) {
                return 0;
            }
            if (letter < 'a' || letter > 'z') {
                return 1;
            }
            if (length >= MOST_LETTERS) {
                return 2;
            }
            return length == 0 && wordCount >= MOST_WORDS ? 3 : 0;
        }

        private void addToWord(int letter, int length) {
            if (length == 0) {
                words[wordCount] = 0;
                wordCount++;
            }
            int w = wordCount - 1;
            words[w] = Spelling.withLetter(words[w], length, letter);
        }
    }

    /** What was so ahead of each of the latest deeds, in a ring whose oldest goes when it is full. */
    private static final class Past {
        final Text[] texts = new Text[MOST_UNDONE];
        int next = 0;
        int count = 0;

        Past() {
            for (int i = 0; i < MOST_UNDONE; i++) {
                texts[i] = new Text();
            }
        }

        void remember(Text text) {
            texts[next].become(text);
            next = (next + 1) % MOST_UNDONE;
            count = Math.min(count + 1, MOST_UNDONE);
        }

        void giveBack(int n, Text text) {
            next = (next + MOST_UNDONE - n) % MOST_UNDONE;
            count -= n;
            text.become(texts[next]);
        }
    }

    private static final class Image {
        final Text text = new Text();
        int state = 0;
        boolean kept = false;
    }

    private static final class Draws {
        int state = 0;

        int draw(int n) {
            state = (int) ((state * 1103515245L + 12345L) % 2147483648L);
            return n > 0 ? state / 65536 % n : 0;
        }

        long drawWord() {
            int length = draw(MOST_LETTERS) + 1;
            long word = 0;
            for (int at = 0; at < length; at++) {
                word = Spelling.withLetter(word, at, 'a' + draw(26));
            }
            return word;
        }
    }

    /** A text broken by one measure: totals and owners of its ends, and its lines. */
    private static final class Layout {
        final int[] roots;
        /** How far each end is from the left, were all one line: widths ahead of it, and a gap behind each word. */
        final int[] place = new int[MOST_ENDS];
        final int[] total = new int[MOST_ENDS];
        final int[] owner = new int[MOST_ENDS];
        final int[] lineBegin = new int[MOST_ENDS];
        final int[] row = new int[MOST_ENDS];
        int last = 0;
        int measure = 1;
        int law = 0;
        int fee = 0;
        boolean free = false;
        int lines = 0;
        /** The ends at which lines begin, as a SET. */
        long begins = 0;

        Layout(int[] roots) {
            this.roots = roots;
        }

        void load(Text text) {
            last = text.count;
            measure = text.measure;
            law = text.law;
            fee = text.fee;
            free = text.free;
            place[0] = 0;
            for (int w = 0; w < last; w++) {
                place[w + 1] = place[w] + Spelling.widthOf(text.words[w]) + 1;
            }
        }

        void widen(int w, int by) {
            for (int e = w + 1; e <= last; e++) {
                place[e] += by;
            }
        }

        int widthOf(int i, int j) {
            return place[j] - place[i] - 1;
        }

        int price(int i, int j) {
            return priceOf(measure - widthOf(i, j), j);
        }

        private int priceOf(int slack, int j) {
            if (slack < 0) {
                return fee + tightPrice(-slack);
            }
            return free && j == last ? fee : fee + loosePrice(slack);
        }

        private int tightPrice(int over) {
            switch (law) {
                case 0: return over * over;
                case 2: return 20 * over;
                case 3: return 100 + over;
                default: return over;
            }
        }

        private int loosePrice(int slack) {
            switch (law) {
                case 0: return slack * slack;
                case 3: return slack / 5;
                case 4: return slack < MOST_MEASURE ? roots[slack] : 0;
                default: return slack;
            }
        }

        void solve() {
            total[0] = 0;
            owner[0] = NONE;
            for (int e = 1; e <= last; e++) {
                settle(e);
            }
            layLines();
        }

        /**
         * Looks back from the nearest beginning. By every law a line that is too wide costs the more the wider it
         * is, so the first such line that alone costs more than the least so far ends the search.
         */
        private void settle(int e) {
            int least = ABOVE_ALL;
            int from = NONE;
            for (int i = e - 1; i >= 0; i--) {
                int slack = measure - widthOf(i, e);
                int alone = priceOf(slack, e);
                if (slack < 0 && alone > least) {
                    break;
                }
                if (total[i] + alone <= least) {
                    least = total[i] + alone;
                    from = i;
                }
            }
            total[e] = least;
            owner[e] = from;
        }

        private void layLines() {
            begins = 0;
            int end = last;
            for (int k = 0; k < last && end > 0; k++) {
                end = owner[end];
                begins |= 1L << end;
            }
            lines = 0;
            for (int e = 0; e < last; e++) {
                if (isBegin(e)) {
                    lineBegin[lines] = e;
                    lines++;
                }
            }
        }

        private boolean isBegin(int e) {
            return (begins >> e & 1) == 1;
        }

        int lastTotal() {
            return total[last];
        }

        int beginOf(int k) {
            return k >= 0 && k < lines ? lineBegin[k] : NONE;
        }

        int endOf(int k) {
            return k + 1 < lines ? lineBegin[k + 1] : last;
        }

        int lineOf(int w) {
            int k = 0;
            while (k + 1 < lines && lineBegin[k + 1] <= w) {
                k++;
            }
            return k;
        }

        int ownerKnownTo(int e, int t) {
            int least = ABOVE_ALL;
            int from = NONE;
            for (int i = 0; i <= t; i++) {
                int sum = total[i] + price(i, e);
                if (sum < least) {
                    least = sum;
                    from = i;
                }
            }
            return from;
        }

        int runsAt(int t) {
            int runs = 0;
            int before = NONE;
            for (int e = t + 1; e <= last; e++) {
                int from = ownerKnownTo(e, t);
                if (from != before) {
                    runs++;
                }
                before = from;
            }
            return runs;
        }

        /** Row holds the least to each end with one line fewer; the later ends go first, so that it still does. */
        int leastWithLines(int k) {
            if (k > last) {
                return NONE;
            }
            row[0] = 0;
            for (int count = 1; count <= k; count++) {
                for (int e = last; e >= count; e--) {
                    row[e] = leastWithOneMore(e, count - 1);
                }
            }
            return row[last];
        }

        private int leastWithOneMore(int e, int lowest) {
            int least = ABOVE_ALL;
            int highest = lowest == 0 ? 0 : e - 1;
            for (int i = lowest; i <= highest; i++) {
                least = Math.min(least, row[i] + price(i, e));
            }
            return least;
        }

        int rivers() {
            int count = 0;
            for (int k = 1; k < lines; k++) {
                int begin = beginOf(k);
                for (int e = begin + 1; e < endOf(k); e++) {
                    if (hasGapAt(k - 1, widthOf(begin, e))) {
                        count++;
                    }
                }
            }
            return count;
        }

        private boolean hasGapAt(int k, int fromLeft) {
            int begin = beginOf(k);
            for (int e = begin + 1; e < endOf(k); e++) {
                if (widthOf(begin, e) == fromLeft) {
                    return true;
                }
            }
            return false;
        }

        /** The first ends by which the law is not EVEN (sign 1), not ODD (sign -1), as one number; NONE. */
        int firstCrossed(int sign) {
            for (int i = 0; i < last; i++) {
                for (int k = i + 1; k < last; k++) {
                    int rest = firstFall(i, k, sign);
                    if (rest != NONE) {
                        return ((i + 1) * FIGURE + k + 1) * FIGURE * FIGURE + rest;
                    }
                }
            }
            return NONE;
        }

        /** It is crossed just where what i costs more than k falls from an end j to a later one. */
        private int firstFall(int i, int k, int sign) {
            boolean falls = false;
            for (int j = k + 1; j <= last; j++) {
                row[j] = sign * (price(i, j) - price(k, j));
                falls = falls || j > k + 1 && row[j] < row[j - 1];
            }
            if (!falls) {
                return NONE;
            }
            for (int j = k + 1; j < last; j++) {
                for (int l = j + 1; l <= last; l++) {
                    if (row[l] < row[j]) {
                        return (j + 1) * FIGURE + l + 1;
                    }
                }
            }
            return NONE;
        }
    }

    /** The text by every measure, and what is seen of the unknown one. */
    private static final class Survey {
        final int[] totalBy = new int[MOST_MEASURE + 1];
        final long[] beginsBy = new long[MOST_MEASURE + 1];
        boolean isFresh = false;
        int seen = 0;
        /** SETS of the ends at which a line was seen to begin, and not to. */
        long seenBegin = 0;
        long seenNone = 0;

        void fill(Layout layout) {
            for (int m = 1; m <= MOST_MEASURE; m++) {
                layout.measure = m;
                layout.solve();
                totalBy[m] = layout.lastTotal();
                beginsBy[m] = layout.begins;
            }
            isFresh = true;
        }

        int note(int e, boolean begins) {
            if (seen >= MOST_SEEN) {
                return FULL;
            }
            if (begins) {
                seenBegin |= 1L << e;
            } else {
                seenNone |= 1L << e;
            }
            seen++;
            return seen;
        }

        void forget() {
            seen = 0;
            seenBegin = 0;
            seenNone = 0;
        }

        private boolean fits(int m) {
            return (beginsBy[m] & seenBegin) == seenBegin && (beginsBy[m] & seenNone) == 0;
        }

        int fitting() {
            int count = 0;
            for (int m = 1; m <= MOST_MEASURE; m++) {
                if (fits(m)) {
                    count++;
                }
            }
            return count;
        }

        int leastFitting() {
            for (int m = 1; m <= MOST_MEASURE; m++) {
                if (fits(m)) {
                    return m;
                }
            }
            return NONE;
        }

        int greatestFitting() {
            for (int m = MOST_MEASURE; m >= 1; m--) {
                if (fits(m)) {
                    return m;
                }
            }
            return NONE;
        }

        int look(int lastEnd) {
            int all = fitting();
            int least = all;
            int at = NONE;
            for (int e = 0; e <= lastEnd; e++) {
                int part = fittingThatBegin(e);
                int greater = Math.max(part, all - part);
                if (greater < least) {
                    least = greater;
                    at = e;
                }
            }
            return at;
        }

        private int fittingThatBegin(int e) {
            int count = 0;
            for (int m = 1; m <= MOST_MEASURE; m++) {
                if (fits(m) && (beginsBy[m] >> e & 1) == 1) {
                    count++;
                }
            }
            return count;
        }

        int bestMeasure(int a, int b) {
            int at = a;
            for (int m = a + 1; m <= b; m++) {
                if (totalBy[m] < totalBy[at]) {
                    at = m;
                }
            }
            return at;
        }
    }

    /** Where lines were told to begin. */
    private static final class Book {
        final int[] lineOf = new int[MOST_ENTRIES];
        final int[] beginOf = new int[MOST_ENTRIES];
        int count = 0;

        int add(int k, int e) {
            if (count >= MOST_ENTRIES) {
                return FULL;
            }
            lineOf[count] = k;
            beginOf[count] = e;
            count++;
            return count;
        }

        int firstWrong(Layout layout) {
            for (int i = 0; i < count; i++) {
                if (layout.beginOf(lineOf[i]) != beginOf[i]) {
                    return i;
                }
            }
            return NONE;
        }
    }
}

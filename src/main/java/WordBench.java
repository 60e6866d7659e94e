import java.util.Arrays;
import java.util.NoSuchElementException;

/** A bench for words that never repeat; ../shared/DOC.md says in numbered promises what each call does. */
public final class WordBench {
    public static final int NONE = -1;

    private static final int SHEETS_MOST = 16;
    private static final int WIDTHS = 3;
    private static final int ROWS = 10;
    private static final int ROW_MOST = 80;
    private static final int WORD_MOST = 60;
    private static final int LETTERS = 8;

    private static final int LAWS_MOST = 12;
    private static final int KIND_TOLD = 0;
    private static final int KIND_POWER = 1;
    private static final int KIND_ABOVE = 2;
    private static final int KIND_NEAR = 3;
    private static final int KIND_TURNED = 4;
    private static final int KIND_SHAPE = 5;
    private static final int POWER_NUMBER_MOST = 30;
    private static final int NEAR_MOST = 9;
    private static final int SHAPE_MOST = 6;
    private static final int UNKNOWNS = 3;
    private static final int[] ZIMIN = {0, 1, 0, 2, 0, 1, 0};

    private static final int LOOKS_MOST = 20000;
    private static final int SHAPE_LOOKS = 10;
    // Each turn of a search takes a look or goes back over one, so twice the looks would do.
    private static final int TURNS_MOST = 1000000;
    private static final int FOUND = 1;
    private static final int OVER = 0;
    private static final int SPENT = -2;

    private static final int MAPS = 8;
    private static final int MAP_WORD_MOST = 20;
    // A map's longest look is at 1 + (20 - 3) / 1 letters.
    private static final int IMAGE_MOST = 18 * MAP_WORD_MOST;
    // Words of two letters or more have grown over the greatest place after 31 images.
    private static final int LEVELS = 31;
    private static final long PLACES = 1L << 31;

    private final Sheet[] sheets = new Sheet[SHEETS_MOST];
    private int sheetCount;
    private final Law[] laws = new Law[LAWS_MOST];
    private int lawCount;
    private final LetterMap[] maps = new LetterMap[MAPS];
    private final Law[] squareLaws = {new PowerLaw(2, 1, false)};
    private final Search search = new Search();
    private final int[] letters = new int[WORD_MOST];
    private final int[] grown = new int[IMAGE_MOST];

    public WordBench() {
    }

    public int sheet(int width) throws IllegalArgumentException, IllegalStateException {
        if (width < 0 || width >= WIDTHS) {
            throw new IllegalArgumentException("no such width");
        }
        if (sheetCount >= sheets.length) {
            throw new IllegalStateException("there are 16 sheets");
        }
        sheets[sheetCount] = new Sheet(width);
        sheetCount++;
        return sheetCount - 1;
    }

    public int row(int sheet, int k, int n) throws IndexOutOfBoundsException {
        Sheet of = sheetWithRow(sheet, k);
        if (n < 0 || n > ROW_MOST) {
            return -1;
        }
        of.renew(k, n);
        return n;
    }

    public int put(int sheet, int k, int i, int v) throws IndexOutOfBoundsException {
        Sheet of = sheetWithRow(sheet, k);
        int size = of.sizeOf(k);
        if (size == NONE) {
            return -1;
        }
        if (i < 0 || i >= size) {
            return -2;
        }
        of.write(k, i, v);
        return 1;
    }

    public int tear(int sheet, int k) throws IndexOutOfBoundsException {
        return sheetWithRow(sheet, k).drop(k);
    }

    public int word(int sheet, int k) throws IndexOutOfBoundsException {
        return readWord(sheet, k);
    }

    public int letter(int sheet, int k, int i) throws IndexOutOfBoundsException {
        int n = readWord(sheet, k);
        return i >= 0 && i < n ? letters[i] : -1;
    }

    public int law(int kind, int a, int b) throws IllegalArgumentException, IndexOutOfBoundsException {
        if (kind < KIND_TOLD || kind > KIND_SHAPE) {
            throw new IllegalArgumentException("no such kind");
        }
        boolean ofRow = kind == KIND_TOLD || kind == KIND_SHAPE;
        Law made = ofRow ? lawOfRow(kind, a, b) : lawOfNumbers(kind, a, b);
        if (made == null) {
            return -1;
        }
        if (lawCount >= laws.length) {
            return -2;
        }
        laws[lawCount] = made;
        lawCount++;
        return lawCount - 1;
    }

    public int count(int what) {
        switch (what) {
            case 0:
                return sheetCount;
            case 1:
                return lawCount;
            case 2:
                return search.looks;
            default:
                return NONE;
        }
    }

    public int power(int sheet, int k, int what) throws IndexOutOfBoundsException, IllegalArgumentException {
        int n = readWord(sheet, k);
        needWhat(what, 3);
        if (n <= 0) {
            return n;
        }
        if (what == 3) {
            return seekRun(n, NONE, 0);
        }
        int period = leastPeriod(letters, 0, n);
        if (what == 0) {
            return period;
        }
        return lowestTerm(what == 1 ? n : period, what == 1 ? period : n);
    }

    public int run(int sheet, int k, int r, int what) throws IndexOutOfBoundsException, IllegalArgumentException {
        int n = readWord(sheet, k);
        needWhat(what, 2);
        return r < 0 ? -1 : seekRun(n, r, what);
    }

    public int clash(int set, int sheet, int k, int what) throws IndexOutOfBoundsException, IllegalArgumentException {
        int n = readWord(sheet, k);
        needSet(set);
        needWhat(what, 3);
        if (n < 0) {
            return -2;
        }
        int c = clashLetters(set, n);
        if (what == 0) {
            return c == NONE ? 1 : 0;
        }
        if (c == NONE || what == 1) {
            return c;
        }
        int number = barringLaw(laws, set, letters, c);
        if (what == 2 || number == NONE) {
            return number;
        }
        return laws[number].shortest(letters, c);
    }

    public int many(int set, int alphabet, int n) throws IllegalArgumentException {
        needSearch(set, alphabet, n);
        search.forgetLooks();
        search.begin(laws, set, alphabet, n);
        return search.advanceBy(LOOKS_MOST + 1) == SPENT ? SPENT : search.found;
    }

    public int find(int set, int alphabet, int n, int k, int sheet)
            throws IllegalArgumentException, IndexOutOfBoundsException {
        needSearch(set, alphabet, n);
        Sheet to = sheetOf(sheet);
        if (k < 0) {
            return 0;
        }
        search.forgetLooks();
        search.begin(laws, set, alphabet, n);
        // No search finds more words than it takes looks, so a greater k asks for nothing more.
        int outcome = search.advanceBy(Math.min(k, LOOKS_MOST) + 1);
        if (outcome == FOUND) {
            to.copyIn(0, search.made, n);
        }
        return outcome;
    }

    public int rank(int set, int alphabet, int sheet, int k)
            throws IllegalArgumentException, IndexOutOfBoundsException {
        needSet(set);
        needAlphabet(alphabet);
        int n = readWord(sheet, k);
        if (n < 0 || !areBelow(letters, n, alphabet) || clashLetters(set, n) != NONE) {
            return -1;
        }
        search.forgetLooks();
        search.begin(laws, set, alphabet, n);
        for (int ahead = 0; ahead <= LOOKS_MOST; ahead++) {
            if (search.advance() != FOUND) {
                return SPENT;
            }
            if (areAlike(search.made, letters, n)) {
                return ahead;
            }
        }
        return SPENT;
    }

    public int longest(int set, int alphabet) throws IllegalArgumentException {
        needSet(set);
        needAlphabet(alphabet);
        search.forgetLooks();
        search.begin(laws, set, alphabet, WORD_MOST);
        int outcome = search.advance();
        if (outcome == FOUND) {
            return NONE;
        }
        return outcome == SPENT ? SPENT : search.most;
    }

    public int map(int m, int alphabet, int sheet, int from)
            throws IllegalArgumentException, IndexOutOfBoundsException {
        if (m < 0 || m >= MAPS) {
            throw new IllegalArgumentException("no such map");
        }
        needAlphabet(alphabet);
        Sheet of = sheetWithRow(sheet, from);
        needRow(from + alphabet - 1);
        for (int x = 0; x < alphabet; x++) {
            int n = of.readInto(from + x, letters);
            if (n < 1 || n > MAP_WORD_MOST || !areBelow(letters, n, alphabet)) {
                return 0;
            }
        }
        if (maps[m] == null) {
            maps[m] = new LetterMap();
        }
        fillMap(maps[m], alphabet, of, from);
        return 1;
    }

    public int image(int m, int sheet, int k, int to) throws NoSuchElementException, IndexOutOfBoundsException {
        LetterMap by = mapOf(m);
        int n = readWord(sheet, k);
        Sheet target = sheetOf(to);
        if (n < 0 || !areBelow(letters, n, by.alphabet)) {
            return -1;
        }
        int size = by.imageInto(letters, n, grown);
        if (size == NONE || size > WORD_MOST) {
            return -2;
        }
        target.copyIn(0, grown, size);
        return size;
    }

    public int keeps(int m, int sheet) throws NoSuchElementException, IndexOutOfBoundsException {
        LetterMap of = mapOf(m);
        Sheet to = sheetOf(sheet);
        search.forgetLooks();
        int lengths = of.lengthsToLookAt();
        for (int n = 1; n <= lengths; n++) {
            int outcome = seekFailure(of, n);
            if (outcome == SPENT) {
                return SPENT;
            }
            if (outcome == FOUND) {
                to.copyIn(0, search.made, n);
                return 0;
            }
        }
        return 1;
    }

    public int at(int m, int letter, int place) throws NoSuchElementException {
        LetterMap of = mapOf(m);
        return place < 0 || !of.growsFrom(letter) ? -1 : of.letterFarOut(letter, place);
    }

    public int shape(int law, int what) throws IndexOutOfBoundsException, IllegalArgumentException {
        if (law < 0 || law >= lawCount || law >= laws.length) {
            throw new IndexOutOfBoundsException("no such law");
        }
        if (what < 0) {
            throw new IllegalArgumentException("no such what");
        }
        return laws[law] instanceof ShapeLaw ? tellShape((ShapeLaw) laws[law], what) : -1;
    }

    private static int tellShape(ShapeLaw told, int what) {
        if (what == 1) {
            return told.standsInZimin() ? 1 : 0;
        }
        int steps = told.seekSteps();
        if (what == 0) {
            return steps > 0 ? 1 : 0;
        }
        if (what == 2) {
            return steps;
        }
        return what - 3 < steps ? told.stepAt(what - 3) : 0;
    }

    private Sheet sheetOf(int number) {
        Sheet of = number >= 0 && number < sheets.length ? sheets[number] : null;
        if (of == null) {
            throw new IndexOutOfBoundsException("no such sheet");
        }
        return of;
    }

    private static void needRow(int k) {
        if (k < 0 || k >= ROWS) {
            throw new IndexOutOfBoundsException("no such row");
        }
    }

    private Sheet sheetWithRow(int number, int k) {
        Sheet of = sheetOf(number);
        needRow(k);
        return of;
    }

    /** Puts the WORD of a ROW into letters: how many it has, NONE if it is no WORD. */
    private int readWord(int sheet, int k) {
        return sheetWithRow(sheet, k).readInto(k, letters);
    }

    private LetterMap mapOf(int m) {
        LetterMap of = m >= 0 && m < maps.length ? maps[m] : null;
        if (of == null) {
            throw new NoSuchElementException("this map is not made");
        }
        return of;
    }

    private static void needWhat(int what, int last) {
        if (what < 0 || what > last) {
            throw new IllegalArgumentException("no such what");
        }
    }

    private void needSet(int set) {
        if (set >>> lawCount != 0) {
            throw new IllegalArgumentException("a bit of the set is no law");
        }
    }

    private static void needAlphabet(int alphabet) {
        if (alphabet < 1 || alphabet > LETTERS) {
            throw new IllegalArgumentException("no such alphabet");
        }
    }

    private void needSearch(int set, int alphabet, int n) {
        needSet(set);
        needAlphabet(alphabet);
        if (n < 0 || n > WORD_MOST) {
            throw new IllegalArgumentException("no such length");
        }
    }

    /** The LAW that a WORD tells, null if the ROW is no such WORD. */
    private Law lawOfRow(int kind, int sheet, int k) {
        int n = readWord(sheet, k);
        if (n < 1) {
            return null;
        }
        if (kind == KIND_TOLD) {
            return new ToldLaw(Arrays.copyOf(letters, n));
        }
        return n > SHAPE_MOST || !areBelow(letters, n, UNKNOWNS) ? null : new ShapeLaw(Arrays.copyOf(letters, n));
    }

    private static Law lawOfNumbers(int kind, int a, int b) {
        if (!areNumbersFor(kind, a, b)) {
            throw new IllegalArgumentException("no such numbers for this kind");
        }
        switch (kind) {
            case KIND_POWER:
                return new PowerLaw(a, b, false);
            case KIND_ABOVE:
                return new PowerLaw(a, b, true);
            case KIND_NEAR:
                return new NearLaw(a);
            default:
                return new TurnedLaw();
        }
    }

    private static boolean areNumbersFor(int kind, int a, int b) {
        switch (kind) {
            case KIND_POWER:
                return b >= 1 && a > b && a <= POWER_NUMBER_MOST;
            case KIND_ABOVE:
                return b >= 1 && a >= b && a <= POWER_NUMBER_MOST;
            case KIND_NEAR:
                return a >= 0 && a <= NEAR_MOST && b == 0;
            case KIND_TURNED:
                return a == 0 && b == 0;
            default:
                return false;
        }
    }

    private static boolean areBelow(int[] w, int n, int bound) {
        for (int i = 0; i < n && i < w.length; i++) {
            if (w[i] >= bound) {
                return false;
            }
        }
        return true;
    }

    private static boolean areAlike(int[] w, int[] other, int n) {
        for (int i = 0; i < n && i < w.length && i < other.length; i++) {
            if (w[i] != other[i]) {
                return false;
            }
        }
        return true;
    }

    /** How far the letters of w from i on keep PERIOD p: the place behind the last one that does, to at the most. */
    private static int periodEnd(int[] w, int i, int to, int p) {
        for (int j = i + p; j < to && j < w.length; j++) {
            if (w[j] != w[j - p]) {
                return j;
            }
        }
        return to;
    }

    private static int leastPeriod(int[] w, int from, int to) {
        for (int p = 1; p < to - from; p++) {
            if (periodEnd(w, from, to, p) == to) {
                return p;
            }
        }
        return to - from;
    }

    /** The upper number of upper / lower in lowest terms. */
    private static int lowestTerm(int upper, int lower) {
        for (int d = upper; d > 1; d--) {
            if (upper % d == 0 && lower % d == 0) {
                return upper / d;
            }
        }
        return upper;
    }

    /** What is asked of RUN r of the n letters, -1 without it; for r NONE how many RUNS there are. */
    private int seekRun(int n, int r, int what) {
        int runs = 0;
        for (int i = 0; i < n; i++) {
            for (int p = 1; i + 2 * p <= n; p++) {
                int j = runEnd(i, n, p);
                if (j == NONE) {
                    continue;
                }
                if (runs == r) {
                    return what == 0 ? i : what == 1 ? j : p;
                }
                runs++;
            }
        }
        return r == NONE ? runs : -1;
    }

    /** Where the RUN of least PERIOD p that begins at i ends; NONE without one. */
    private int runEnd(int i, int n, int p) {
        if (i > 0 && letters[i - 1] == letters[i - 1 + p]) {
            return NONE;
        }
        int j = periodEnd(letters, i, n, p);
        return j - i >= 2 * p && leastPeriod(letters, i, j) == p ? j : NONE;
    }

    /** How many of the n letters CLASH, NONE if they are KEPT. */
    private int clashLetters(int set, int n) {
        for (int c = 1; c <= n; c++) {
            if (barringLaw(laws, set, letters, c) != NONE) {
                return c;
            }
        }
        return NONE;
    }

    /** The least LAW of the set that BARS a SPAN which ends with the first n letters of w, or NONE. */
    private static int barringLaw(Law[] laws, int set, int[] w, int n) {
        if (n < 1 || n > w.length) {
            return NONE;
        }
        for (int i = 0; i < laws.length && set >> i != 0; i++) {
            if ((set >> i & 1) != 0 && laws[i] != null && laws[i].shortest(w, n) > 0) {
                return i;
            }
        }
        return NONE;
    }

    private void fillMap(LetterMap into, int alphabet, Sheet of, int from) {
        into.alphabet = alphabet;
        for (int x = 0; x < alphabet; x++) {
            into.tell(x, letters, of.readInto(from + x, letters));
        }
        into.measure();
    }

    /** SEARCHES for a FAILURE of n letters; those of fewer letters are known not to be there. */
    private int seekFailure(LetterMap of, int n) {
        search.begin(squareLaws, 1, of.alphabet, n);
        for (int i = 0; i <= LOOKS_MOST; i++) {
            int outcome = search.advance();
            if (outcome != FOUND || isFailure(of, n)) {
                return outcome;
            }
        }
        return OVER;
    }

    /** A square that ends ahead of the last letter's image would have made a shorter word the failure. */
    private boolean isFailure(LetterMap of, int n) {
        int size = of.imageInto(search.made, n, grown);
        int ahead = size - of.sizeFor(search.made[n - 1]);
        for (int end = ahead + 1; end <= size; end++) {
            if (barringLaw(squareLaws, 1, grown, end) != NONE) {
                return true;
            }
        }
        return false;
    }

    /** Ten ROWS; their numbers are held as ints that have been cut to the SHEET's width. */
    private static final class Sheet {
        private final int width;
        private final int[] numbers = new int[ROWS * ROW_MOST];
        private final int[] sizes = new int[ROWS];

        Sheet(int width) {
            this.width = width;
            Arrays.fill(sizes, NONE);
        }

        int sizeOf(int k) {
            return sizes[k];
        }

        void renew(int k, int n) {
            Arrays.fill(numbers, k * ROW_MOST, k * ROW_MOST + n, 0);
            sizes[k] = n;
        }

        void write(int k, int i, int v) {
            numbers[k * ROW_MOST + i] = width == 0 ? (byte) v : width == 1 ? (short) v : v;
        }

        int drop(int k) {
            int size = sizes[k];
            sizes[k] = NONE;
            return size;
        }

        void copyIn(int k, int[] w, int n) {
            System.arraycopy(w, 0, numbers, k * ROW_MOST, n);
            sizes[k] = n;
        }

        int readInto(int k, int[] w) {
            int n = Math.max(sizes[k], 0);
            if (n > WORD_MOST || n > w.length) {
                return NONE;
            }
            for (int i = 0; i < n; i++) {
                w[i] = numbers[k * ROW_MOST + i];
                if (w[i] < 0 || w[i] >= LETTERS) {
                    return NONE;
                }
            }
            return n;
        }
    }

    private abstract static class Law {
        /**
         * How long the shortest SPAN is that this LAW BARS and that ends with the first n letters of w;
         * 0 without one. n is 1 to the length of w, and w's first n - 1 letters are KEPT.
         */
        abstract int shortest(int[] w, int n);
    }

    private static final class ToldLaw extends Law {
        private final int[] told;

        ToldLaw(int[] told) {
            this.told = told;
        }

        int shortest(int[] w, int n) {
            if (told.length > n) {
                return 0;
            }
            for (int i = 1; i <= told.length; i++) {
                if (told[told.length - i] != w[n - i]) {
                    return 0;
                }
            }
            return told.length;
        }
    }

    private static final class PowerLaw extends Law {
        private final int upper;
        private final int lower;
        private final boolean above;

        PowerLaw(int upper, int lower, boolean above) {
            this.upper = upper;
            this.lower = lower;
            this.above = above;
        }

        /** A longer PERIOD needs a longer SPAN, so the first SPAN that is long enough is the shortest. */
        int shortest(int[] w, int n) {
            for (int p = 1; p < n && p * upper <= n * lower; p++) {
                for (int size = p + 1; size <= n && w[n - size] == w[n - size + p]; size++) {
                    int over = size * lower - p * upper;
                    if (over > 0 || (over == 0 && !above)) {
                        return size;
                    }
                }
            }
            return 0;
        }
    }

    private static final class NearLaw extends Law {
        private final int most;

        NearLaw(int most) {
            this.most = most;
        }

        int shortest(int[] w, int n) {
            for (int half = 1; 2 * half <= n; half++) {
                if (isNear(w, n, half)) {
                    return 2 * half;
                }
            }
            return 0;
        }

        private boolean isNear(int[] w, int n, int half) {
            int allowed = Math.min(most, half - 1);
            for (int i = 1; i <= half && allowed >= 0; i++) {
                if (w[n - i] != w[n - half - i]) {
                    allowed--;
                }
            }
            return allowed >= 0;
        }
    }

    private static final class TurnedLaw extends Law {
        /**
         * The balance has eight bits for each letter, more than a half's thirty can fill, so it is 0 just
         * when the halves have every letter alike often. A half that grows by one letter takes that one
         * from the half ahead of it, which takes two others.
         */
        int shortest(int[] w, int n) {
            long balance = 0;
            for (int half = 1; 2 * half <= n; half++) {
                balance += 2 * weight(w[n - half]) - weight(w[n - 2 * half]) - weight(w[n - 2 * half + 1]);
                if (balance == 0) {
                    return 2 * half;
                }
            }
            return 0;
        }

        private static long weight(int letter) {
            return 1L << (8 * letter);
        }
    }

    private static final class ShapeLaw extends Law {
        private final int[] told;
        private final int tail;
        private final int[] times = new int[UNKNOWNS];
        private final int[] sizes = new int[UNKNOWNS];
        private final int[] ends = new int[UNKNOWNS];
        private final int[] steps = new int[UNKNOWNS];
        private int best;

        ShapeLaw(int[] told) {
            this.told = told;
            for (int x : told) {
                times[x]++;
            }
            int from = told.length;
            while (from > 0 && times[told[from - 1]] == 1) {
                from--;
            }
            tail = from;
        }

        int shortest(int[] w, int n) {
            best = n + 1;
            fit(w, n, told.length - 1, told.length);
            return best > n ? 0 : best;
        }

        /**
         * Fits what is told up to place at so that it ends ahead of letter end; what is behind it fits.
         * The least is how long the SPAN is if each UNKNOWN still without a WORD gets one of one letter:
         * sizes that can't make it shorter than the best are not tried, so there is room for those that are.
         */
        private void fit(int[] w, int end, int at, int least) {
            if (at < 0) {
                best = least;
                return;
            }
            int x = told[at];
            if (sizes[x] > 0) {
                if (areSame(w, end, ends[x], sizes[x])) {
                    fit(w, end - sizes[x], at - 1, least);
                }
                return;
            }
            ends[x] = end;
            int most = mostFor(w, end, at);
            for (int size = 1; size <= most && least + (size - 1) * times[x] < best; size++) {
                sizes[x] = size;
                fit(w, end - size, at - 1, least + (size - 1) * times[x]);
            }
            sizes[x] = 0;
        }

        /**
         * How long a WORD that ends at end can be for the UNKNOWN at place at. From the tail on each UNKNOWN
         * stands but once: with more than one letter for one of these the SPAN less its last letter would be
         * BARRED too, but all up to there is KEPT. One that stands again must have its WORD ahead again.
         */
        private int mostFor(int[] w, int end, int at) {
            if (at >= tail) {
                return 1;
            }
            if (times[told[at]] == 1) {
                return end;
            }
            int most = 0;
            for (int other = end - 1; other > most; other--) {
                int size = 0;
                while (size < other && size < end - other && w[end - 1 - size] == w[other - 1 - size]) {
                    size++;
                }
                most = size > most ? size : most;
            }
            return most;
        }

        private static boolean areSame(int[] w, int end, int other, int size) {
            if (size > end || size > other) {
                return false;
            }
            for (int i = 1; i <= size; i++) {
                if (w[end - i] != w[other - i]) {
                    return false;
                }
            }
            return true;
        }

        private int unknowns() {
            int set = 0;
            for (int x : told) {
                set |= 1 << x;
            }
            return set;
        }

        boolean standsInZimin() {
            int size = (1 << Integer.bitCount(unknowns())) - 1;
            for (int n = 1; n <= size && n <= ZIMIN.length; n++) {
                if (shortest(ZIMIN, n) > 0) {
                    return true;
                }
            }
            return false;
        }

        /** How many STEPS there are; 0 without any. */
        int seekSteps() {
            return takeOff(unknowns(), 0);
        }

        int stepAt(int i) {
            return i >= 0 && i < steps.length ? steps[i] : 0;
        }

        private int takeOff(int left, int depth) {
            if (left == 0 || depth >= steps.length) {
                return left == 0 ? depth : 0;
            }
            for (int set = 1; set <= left; set++) {
                if ((set & ~left) == 0 && isLoose(set, left)) {
                    steps[depth] = set;
                    int taken = takeOff(left & ~set, depth + 1);
                    if (taken > 0) {
                        return taken;
                    }
                }
            }
            return 0;
        }

        /** Right sides are the lower three bits, left sides the upper three; six sides are reached in six rounds. */
        private boolean isLoose(int set, int left) {
            int reached = set;
            for (int round = 0; round < 2 * UNKNOWNS; round++) {
                reached = reachOn(reached, left);
            }
            return (reached >> UNKNOWNS & set) == 0;
        }

        private int reachOn(int reached, int left) {
            int before = 0;
            for (int x : told) {
                if ((left >> x & 1) == 0) {
                    continue;
                }
                int joining = before | (1 << (x + UNKNOWNS));
                if (before != 0 && (reached & joining) != 0) {
                    reached |= joining;
                }
                before = 1 << x;
            }
            return reached;
        }
    }

    /** SEARCH, one found WORD after another. */
    private static final class Search {
        private final int[] made = new int[WORD_MOST];
        private Law[] laws;
        private int set;
        private int alphabet;
        private int wanted;
        private int cost;
        private int looks;
        private int found;
        private int most;
        private int size;
        private int next;
        private boolean begun;

        void forgetLooks() {
            looks = 0;
        }

        void begin(Law[] by, int ofSet, int over, int n) {
            laws = by;
            set = ofSet;
            alphabet = over;
            wanted = n;
            cost = hasShape() ? SHAPE_LOOKS : 1;
            found = 0;
            most = 0;
            size = 0;
            next = 0;
            begun = false;
        }

        private boolean hasShape() {
            for (int i = 0; i < laws.length; i++) {
                if ((set >> i & 1) != 0 && laws[i] instanceof ShapeLaw) {
                    return true;
                }
            }
            return false;
        }

        /** Goes on to the next WORD that is found, if any, until so many are: how it ended. */
        int advanceBy(int times) {
            int outcome = FOUND;
            for (int i = 0; i < times && outcome == FOUND; i++) {
                outcome = advance();
            }
            return outcome;
        }

        /** FOUND: the next WORD's letters are in made; OVER: there is none; SPENT. */
        int advance() {
            if (!begun) {
                begun = true;
                if (!takeLook()) {
                    return SPENT;
                }
                if (wanted == 0) {
                    next = alphabet;
                    found++;
                    return FOUND;
                }
            }
            for (int turn = 0; turn < TURNS_MOST; turn++) {
                if (next < alphabet) {
                    if (!takeLook()) {
                        return SPENT;
                    }
                    if (putBehind()) {
                        return FOUND;
                    }
                } else if (size > 0) {
                    size--;
                    next = made[size] + 1;
                } else {
                    return OVER;
                }
            }
            return OVER;
        }

        private boolean takeLook() {
            if (looks + cost > LOOKS_MOST) {
                return false;
            }
            looks += cost;
            return true;
        }

        /** Puts the next letter behind: whether a WORD is found with it. */
        private boolean putBehind() {
            made[size] = next;
            next++;
            if (barringLaw(laws, set, made, size + 1) != NONE) {
                return false;
            }
            most = Math.max(most, size + 1);
            if (size + 1 >= wanted) {
                found++;
                return true;
            }
            size++;
            next = 0;
            return false;
        }
    }

    /** A WORD for each LETTER of an ALPHABET. */
    private static final class LetterMap {
        private int alphabet;
        private final int[] sizes = new int[LETTERS];
        private final int[] told = new int[LETTERS * MAP_WORD_MOST];
        // How many letters each LETTER has become after 0, 1, .. images, PLACES at the most.
        private final long[] grownSizes = new long[LEVELS * LETTERS];

        void tell(int x, int[] w, int n) {
            System.arraycopy(w, 0, told, x * MAP_WORD_MOST, n);
            sizes[x] = n;
        }

        int sizeFor(int x) {
            return sizes[x];
        }

        void measure() {
            Arrays.fill(grownSizes, 0, LETTERS, 1L);
            for (int level = 1; level < LEVELS; level++) {
                for (int x = 0; x < alphabet; x++) {
                    grownSizes[level * LETTERS + x] = Math.min(PLACES, imageSize(level - 1, x));
                }
            }
        }

        private long imageSize(int level, int x) {
            long sum = 0;
            for (int i = 0; i < sizes[x]; i++) {
                sum += grownSizes[level * LETTERS + told[x * MAP_WORD_MOST + i]];
            }
            return sum;
        }

        /** Puts the IMAGE of the n letters of w into another row: how many letters; NONE if it has no room. */
        int imageInto(int[] w, int n, int[] into) {
            int size = 0;
            for (int i = 0; i < n; i++) {
                int x = w[i];
                if (size + sizes[x] > into.length) {
                    return NONE;
                }
                System.arraycopy(told, x * MAP_WORD_MOST, into, size, sizes[x]);
                size += sizes[x];
            }
            return size;
        }

        /** The greater of 3 and 1 + (M - 3) / m, rounded up. */
        int lengthsToLookAt() {
            int most = 1;
            int fewest = MAP_WORD_MOST;
            for (int x = 0; x < alphabet; x++) {
                most = Math.max(most, sizes[x]);
                fewest = Math.min(fewest, sizes[x]);
            }
            return fewest < 1 ? 3 : Math.max(3, 1 + (most - 3 + fewest - 1) / fewest);
        }

        boolean growsFrom(int a) {
            if (a < 0 || a >= alphabet || told[a * MAP_WORD_MOST] != a) {
                return false;
            }
            for (int x = 0; x < alphabet; x++) {
                if (sizes[x] < 2) {
                    return false;
                }
            }
            return true;
        }

        /** Goes from the last image but one down to the letter itself; each time into the part that has the place. */
        int letterFarOut(int a, int place) {
            int x = a;
            long rest = place;
            for (int level = LEVELS - 1; level >= 0; level--) {
                int from = x * MAP_WORD_MOST;
                int i = 0;
                while (i < sizes[x] - 1 && rest >= grownSizes[level * LETTERS + told[from + i]]) {
                    rest -= grownSizes[level * LETTERS + told[from + i]];
                    i++;
                }
                x = told[from + i];
            }
            return x;
        }
    }
}

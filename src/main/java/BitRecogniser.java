/** A recogniser of words by a grammar; ../shared/DOC.md tells what each call answers. */
public final class BitRecogniser {
    public static final int NONE = -1;

    private static final int NO_SUCH = -2;
    private static final int NO_NUMBER = -3;
    private static final int TOO_MANY = -4;
    private static final int NOT_NOW = -5;
    private static final int NOT_MADE = -6;
    private static final int NO_ROOM = -7;
    private static final int TEXT_FAULT = -30;

    /** A to H are the symbols below NAMES, the letters those from there on, below HELPER. */
    private static final int NAMES = 8;
    private static final int HELPER = 14;
    private static final int RULES = 16;
    private static final int PARTS = 5;
    private static final int MOST_HELPERS = RULES * (PARTS - 2);
    private static final int MOST_PAIRS = RULES * (PARTS - 1);
    private static final int SYMBOLS = HELPER + MOST_HELPERS;
    private static final int NAME_BITS = 0xFF;
    private static final int LETTER_BITS = 0x3F00;
    private static final int MOST_LETTERS = 14;
    private static final int SPANS = MOST_LETTERS * (MOST_LETTERS + 1) / 2;

    private static final int TAPE_BYTES = 40;
    private static final int UNDOABLE = 10;
    private static final int IMAGES = 2;
    private static final int TRAYS = 3;
    private static final int TRAY_LONGS = 20;
    private static final int SHORT_WORD = 4;
    private static final long GREATEST = 9223372036854775807L;

    private final Tape tape;
    private final Told told;
    private final Past past;
    private final Binary binary;
    private final Chart chart;
    private final Rounds roundTable;
    private final Forest forest;
    private final Listing listing;
    private final Chart anyWord;
    private final Forest anyForest;
    private final Nearest nearest;
    private final Vocabulary vocabulary;
    private final Binary spareBinary;
    private final Chart spareChart;
    private final long[] trayLongs;
    private final int[] traySizes;
    /** Tables are made only when asked for: each bears the stamp of what was told when it was made. */
    private int stamp;
    private int builtStamp;

    public BitRecogniser() {
        tape = new Tape();
        told = new Told();
        past = new Past();
        binary = new Binary();
        chart = new Chart(false);
        roundTable = new Rounds(binary, chart);
        forest = new Forest(binary, chart, false);
        listing = new Listing(told, binary, forest);
        anyWord = new Chart(true);
        anyForest = new Forest(binary, anyWord, true);
        nearest = new Nearest(binary, anyWord, told);
        vocabulary = new Vocabulary();
        spareBinary = new Binary();
        spareChart = new Chart(false);
        trayLongs = new long[TRAYS * TRAY_LONGS];
        traySizes = new int[TRAYS];
        for (int t = 0; t < traySizes.length; t++) {
            traySizes[t] = NONE;
        }
        stamp = 1;
        builtStamp = 0;
    }

    // ---- rules, the word

    public int feed(int a, int b, int c, int d, int e) {
        if (tape.held > TAPE_BYTES - 20) {
            return TOO_MANY;
        }
        tape.append(a);
        tape.append(b);
        tape.append(c);
        tape.append(d);
        tape.append(e);
        return tape.held;
    }

    public int rule(int n) {
        if (n < 0 || n > tape.held) {
            return NO_NUMBER;
        }
        if (told.lowestFree() == NONE) {
            return TOO_MANY;
        }
        int code = tape.takeRule(n);
        if (tape.faultKind != 0) {
            return TEXT_FAULT - tape.faultKind;
        }
        if (told.hasAlike(code)) {
            return NOT_NOW;
        }
        changing();
        int r = told.lowestFree();
        told.setRule(r, code);
        return r;
    }

    public int word(int n) {
        if (n < 0 || n > tape.held) {
            return NO_NUMBER;
        }
        long letters = tape.takeWord(n);
        if (tape.faultKind != 0) {
            return TEXT_FAULT - tape.faultKind;
        }
        changing();
        told.setWord(letters, n);
        return n;
    }

    public int fault(int what) {
        if (what == 0) {
            return tape.faultKind;
        }
        return what == 1 ? tape.faultPlace : NONE;
    }

    public int drop(int r) {
        if (told.ruleAt(r) == 0) {
            return NO_SUCH;
        }
        changing();
        told.setRule(r, 0);
        return Integer.bitCount(told.ruleBits());
    }

    public int start(int x) {
        if (!isName(x)) {
            return NO_SUCH;
        }
        if (x == told.top) {
            return NOT_NOW;
        }
        changing();
        int before = told.top;
        told.top = x;
        return before;
    }

    public int part(int r, int i) {
        int code = told.ruleAt(r);
        if (code == 0) {
            return NO_SUCH;
        }
        if (i < NONE) {
            return NO_NUMBER;
        }
        if (i == NONE) {
            return headOf(code);
        }
        return i < sizeOf(code) ? partOf(code, i) : NONE;
    }

    // ---- binary

    public int pairs() {
        freshen();
        return binary.pairCount;
    }

    public int pair(int i, int what) {
        freshen();
        if (i < 0 || i >= binary.pairCount) {
            return NO_SUCH;
        }
        int code = intAt(binary.pairCodes, i);
        switch (what) {
            case 0:
                return madeOf(code);
            case 1:
                return leftOf(code);
            case 2:
                return rightOf(code);
            case 3:
                return code >>> 18;
            default:
                return NO_SUCH;
        }
    }

    public int back(int x, int what) {
        freshen();
        if (x < HELPER || !isSymbol(x)) {
            return NO_SUCH;
        }
        if (what == 0) {
            return intAt(binary.helperRules, x - HELPER);
        }
        return what == 1 ? intAt(binary.helperPlaces, x - HELPER) : NO_SUCH;
    }

    public int units(int x) {
        if (!isName(x)) {
            return NO_SUCH;
        }
        freshen();
        return intAt(binary.unitReach, x) | (1 << x);
    }

    public int rounds() {
        freshen();
        int bits = 0;
        for (int x = 0; x < NAMES; x++) {
            bits |= intAt(binary.unitReach, x) & (1 << x);
        }
        return bits;
    }

    public int least(int x) {
        freshen();
        return isSymbol(x) ? intAt(binary.leastLengths, x) : NO_SUCH;
    }

    public int reached(int what) {
        if (what < 0 || what > 1) {
            return NO_SUCH;
        }
        freshen();
        int all = binary.reachedFrom(told.top);
        return what == 0 ? all : all & (int) (binary.fruitful & NAME_BITS);
    }

    // ---- spans

    public long cell(int i, int j) {
        freshen();
        return chart.hasSpan(i, j) ? chart.cellAt(i, j) : NO_SUCH;
    }

    public int accepted() {
        freshen();
        return chart.derives(told.top, 0, told.letters) ? 1 : 0;
    }

    public int round(int x, int i, int j) {
        freshen();
        if (!isSymbol(x) || !chart.hasSpan(i, j)) {
            return NO_SUCH;
        }
        if (!chart.derives(x, i, j)) {
            return NONE;
        }
        readyRounds();
        return (int) roundTable.valueAt(x, i, j);
    }

    public int last() {
        freshen();
        readyRounds();
        long greatest = NONE;
        for (int j = 1; j <= told.letters; j++) {
            for (int i = 0; i < j; i++) {
                greatest = Math.max(greatest, roundTable.greatestAt(i, j));
            }
        }
        return (int) greatest;
    }

    public int product(int x, int y, int i) {
        freshen();
        if (!isSymbol(x) || !isSymbol(y) || !isPlace(i)) {
            return NO_SUCH;
        }
        int ends = chart.endsFrom(x, i);
        int bits = 0;
        for (int k = i + 1; k < told.letters; k++) {
            if ((ends >>> k & 1) != 0) {
                bits |= chart.endsFrom(y, k);
            }
        }
        return bits;
    }

    public int cuts(int x, int y, int i, int j) {
        freshen();
        if (!isSymbol(x) || !isSymbol(y) || !chart.hasSpan(i, j)) {
            return NO_SUCH;
        }
        int many = 0;
        for (int k = i + 1; k < j; k++) {
            if (chart.derives(x, i, k) && chart.derives(y, k, j)) {
                many++;
            }
        }
        return many;
    }

    public int row(int x, int i) {
        freshen();
        return isSymbol(x) && isPlace(i) ? chart.endsFrom(x, i) : NO_SUCH;
    }

    public int spans(int x, int what) {
        freshen();
        if (!isSymbol(x) || what < 0 || what > 2) {
            return NO_SUCH;
        }
        int many = 0;
        int longest = 0;
        int begin = NONE;
        for (int i = 0; i < told.letters; i++) {
            int ends = chart.endsFrom(x, i);
            many += Integer.bitCount(ends);
            int farthest = 31 - Integer.numberOfLeadingZeros(ends);
            if (farthest - i > longest) {
                longest = farthest - i;
                begin = i;
            }
        }
        if (what == 0) {
            return many;
        }
        return what == 1 ? longest : begin;
    }

    // ---- trees

    public long trees(int x, int i, int j) {
        freshen();
        if (!isName(x) || !chart.hasSpan(i, j)) {
            return NO_SUCH;
        }
        readyForest();
        return forest.valueAt(x, i, j);
    }

    public int doubtful(int what) {
        if (what < 0 || what > 2) {
            return NO_SUCH;
        }
        freshen();
        readyForest();
        int answer = NONE;
        // from the last one to the first, as one with too many decides wherever it is
        for (int size = told.letters; size >= 1; size--) {
            for (int i = told.letters - size; i >= 0; i--) {
                int x = forest.doubtfulAt(i, i + size);
                if (x == NO_ROOM) {
                    return NO_ROOM;
                }
                if (x != NONE) {
                    answer = what == 0 ? x : what == 1 ? i : i + size;
                }
            }
        }
        return answer;
    }

    public int nodes() {
        freshen();
        readyForest();
        return readyTree(0) ? listing.nodeCount : 0;
    }

    public int node(int k, int what) {
        freshen();
        readyForest();
        return readyTree(0) ? listing.tell(k, what) : NO_SUCH;
    }

    public int tree(int m, int k, int what) {
        freshen();
        readyForest();
        long many = treesOfWord();
        if (many < 0) {
            return NO_ROOM;
        }
        if (m < 0 || m >= many || !readyTree(m)) {
            return NO_NUMBER;
        }
        if (k != NONE) {
            return listing.tell(k, what);
        }
        return what >= 0 && what < Listing.WHATS ? listing.nodeCount : NO_SUCH;
    }

    public int loss(int r) {
        if (told.ruleAt(r) == 0) {
            return NO_SUCH;
        }
        freshen();
        spareBinary.build(told, r);
        spareChart.readWord(told, false);
        spareChart.fill(spareBinary, told.letters);
        int lost = 0;
        for (int j = 1; j <= told.letters; j++) {
            for (int i = 0; i < j; i++) {
                lost += Long.bitCount(chart.cellAt(i, j) & ~spareChart.cellAt(i, j) & NAME_BITS);
            }
        }
        return lost;
    }

    public int form(int m, int i) {
        freshen();
        readyForest();
        if (!readyTree(0) || m < 0 || m > listing.nodeCount) {
            return NO_SUCH;
        }
        if (i < 0) {
            return NO_NUMBER;
        }
        listing.makeForm(m);
        return i < listing.formSize ? intAt(listing.formSymbols, i) : NONE;
    }

    public int length(int m) {
        freshen();
        readyForest();
        if (!readyTree(0) || m < 0 || m > listing.nodeCount) {
            return NO_SUCH;
        }
        listing.makeForm(m);
        return listing.formSize;
    }

    // ---- words

    public int beginnings() {
        freshen();
        return chart.endsFrom(told.top, 0);
    }

    public int pieces(int i) {
        if (i < NONE) {
            return NO_NUMBER;
        }
        freshen();
        int fewest = chart.countPieces(told.top);
        if (i == NONE || i >= fewest) {
            return i == NONE ? fewest : NONE;
        }
        return chart.endOfPiece(told.top, i);
    }

    public int turned() {
        freshen();
        spareChart.readWord(told, true);
        spareChart.fill(binary, told.letters);
        return spareChart.derives(told.top, 0, told.letters) ? 1 : 0;
    }

    public int viable() {
        freshen();
        long begun = binary.fruitful;
        if (told.letters > 0) {
            int latest = told.letters - 1;
            begun = chart.beginnersOf(binary, latest, 1L << told.letterAt(latest));
        }
        return (int) (begun >>> told.top & 1L);
    }

    public int next() {
        freshen();
        int bits = 0;
        for (int letter = NAMES; letter < HELPER; letter++) {
            long begun = chart.beginnersOf(binary, told.letters, 1L << letter);
            if ((begun >>> told.top & 1L) != 0) {
                bits |= 1 << letter;
            }
        }
        return bits;
    }

    public int lengths(int x) {
        freshen();
        if (!isSymbol(x)) {
            return NO_SUCH;
        }
        readyAnyWord();
        return anyWord.endsFrom(x, 0);
    }

    public long shapes(int x, int n) {
        if (!isName(x)) {
            return NO_SUCH;
        }
        if (n < 1 || n > MOST_LETTERS) {
            return NO_NUMBER;
        }
        freshen();
        readyAnyWord();
        if (anyForest.stampOfTable != stamp) {
            anyForest.fill(MOST_LETTERS);
            anyForest.stampOfTable = stamp;
        }
        return anyForest.valueAt(x, 0, n);
    }

    public int changes() {
        freshen();
        long key = nearestWord();
        return key < 0 ? NONE : Nearest.othersIn(key);
    }

    public int changed(int i) {
        if (i < 0) {
            return NO_NUMBER;
        }
        freshen();
        long key = nearestWord();
        return key < 0 || i >= told.letters ? NONE : Nearest.letterIn(key, told.letters - 1 - i);
    }

    public int words(int n) {
        if (n < 1 || n > SHORT_WORD) {
            return NO_NUMBER;
        }
        freshen();
        readyVocabulary();
        return vocabulary.sizeOfSet(told.top, n);
    }

    public int first(int n, int i) {
        if (n < 1 || n > SHORT_WORD || i < 0) {
            return NO_NUMBER;
        }
        freshen();
        readyVocabulary();
        return i < n ? vocabulary.letterOfFirst(told.top, n, i) : NONE;
    }

    // ---- trays, back

    public int tray(int tray, int n) {
        if (!isTray(tray)) {
            return NO_SUCH;
        }
        if (n < 0 || n > TRAY_LONGS) {
            return NO_NUMBER;
        }
        for (int i = 0; i < TRAY_LONGS; i++) {
            putLong(trayLongs, tray * TRAY_LONGS + i, 0L);
        }
        putInt(traySizes, tray, n);
        return 0;
    }

    public int copy(int tray, int at, int i) {
        if (!isTray(tray) || !isPlace(i)) {
            return NO_SUCH;
        }
        int size = intAt(traySizes, tray);
        if (size == NONE) {
            return NOT_MADE;
        }
        int coming = told.letters - i;
        if (at < 0 || at > size - coming) {
            return NO_ROOM;
        }
        freshen();
        for (int k = 0; k < coming; k++) {
            putLong(trayLongs, tray * TRAY_LONGS + at + k, chart.cellAt(i, i + 1 + k));
        }
        return coming;
    }

    public long number(int tray, int i) {
        if (!isTray(tray)) {
            return NO_SUCH;
        }
        int size = intAt(traySizes, tray);
        if (size == NONE) {
            return NOT_MADE;
        }
        return i >= 0 && i < size ? longAt(trayLongs, tray * TRAY_LONGS + i) : NO_ROOM;
    }

    public int undo(int n) {
        if (n < 1 || n > past.held) {
            return NO_NUMBER;
        }
        past.goBack(told, n);
        stamp++;
        return past.held;
    }

    public int image(int i) {
        if (i < 0 || i >= IMAGES) {
            return NO_SUCH;
        }
        past.makeImage(told, i);
        return 0;
    }

    public int restore(int i) {
        if (i < 0 || i >= IMAGES) {
            return NO_SUCH;
        }
        if (!past.takeImage(told, i)) {
            return NOT_MADE;
        }
        stamp++;
        return 0;
    }

    public int count(int what) {
        switch (what) {
            case 0:
                return Integer.bitCount(told.ruleBits());
            case 1:
                return told.ruleBits();
            case 2:
                freshen();
                return binary.unitCount;
            case 3:
                freshen();
                return binary.helperCount;
            case 4:
                return told.top;
            case 5:
                return told.letters;
            case 6:
                return past.held;
            case 7:
                return tape.held;
            default:
                return NONE;
        }
    }

    // ---- what calls share

    private boolean isName(int x) {
        return x >= 0 && x < NAMES;
    }

    /** Only behind freshen(): the helpers must be those of the rules now. */
    private boolean isSymbol(int x) {
        return x >= 0 && x < binary.symbolCount();
    }

    private boolean isPlace(int i) {
        return i >= 0 && i <= told.letters;
    }

    private boolean isTray(int tray) {
        return tray >= 0 && tray < TRAYS;
    }

    private void changing() {
        past.keep(told);
        stamp++;
    }

    /** Each call that asks goes through here ahead of the ready..() below. */
    private void freshen() {
        if (builtStamp == stamp) {
            return;
        }
        binary.build(told, NONE);
        binary.measure();
        chart.readWord(told, false);
        chart.fill(binary, told.letters);
        builtStamp = stamp;
    }

    private void readyRounds() {
        if (roundTable.stampOfTable != stamp) {
            roundTable.fill(told.letters);
            roundTable.stampOfTable = stamp;
        }
    }

    private void readyForest() {
        if (forest.stampOfTable != stamp) {
            forest.fill(told.letters);
            forest.stampOfTable = stamp;
        }
    }

    private void readyAnyWord() {
        if (anyWord.stampOfChart != stamp) {
            anyWord.readAnything();
            anyWord.fill(binary, MOST_LETTERS);
            anyWord.stampOfChart = stamp;
        }
    }

    private void readyVocabulary() {
        if (vocabulary.stampOfSets != stamp) {
            vocabulary.fill(binary);
            vocabulary.stampOfSets = stamp;
        }
    }

    private long treesOfWord() {
        return told.letters == 0 ? 0L : forest.valueAt(told.top, 0, told.letters);
    }

    /** Lists the tree of that number, if there is one (the first one stands also where they are too many to tell). */
    private boolean readyTree(int m) {
        if (treesOfWord() == 0L) {
            return false;
        }
        if (listing.stampOfTree != stamp || listing.listedTree != m) {
            listing.list(m);
            listing.stampOfTree = stamp;
            listing.listedTree = m;
        }
        return true;
    }

    /** The key of the nearest word that is accepted, or one below 0. */
    private long nearestWord() {
        readyAnyWord();
        if (told.letters == 0) {
            return NONE;
        }
        if (nearest.stampOfTable != stamp) {
            nearest.fill(told.letters);
            nearest.stampOfTable = stamp;
        }
        return nearest.valueAt(told.top, 0, told.letters);
    }

    // ---- rows whose index is looked at in one place

    private static int intAt(int[] numbers, int i) {
        return i >= 0 && i < numbers.length ? numbers[i] : 0;
    }

    private static void putInt(int[] numbers, int i, int value) {
        if (i >= 0 && i < numbers.length) {
            numbers[i] = value;
        }
    }

    private static long longAt(long[] numbers, int i) {
        return i >= 0 && i < numbers.length ? numbers[i] : 0L;
    }

    private static void putLong(long[] numbers, int i, long value) {
        if (i >= 0 && i < numbers.length) {
            numbers[i] = value;
        }
    }

    /** Where places are all alike, spans of one size share one slot. */
    private static int slotOf(int i, int j, boolean alike) {
        return alike ? j - i - 1 : j * (j - 1) / 2 + i;
    }

    // ---- a rule in one int (0: none): how many parts, its symbol, the parts, four bits each

    private static int sizeOf(int code) {
        return code & 7;
    }

    private static int headOf(int code) {
        return (code >>> 3) & 15;
    }

    private static int partOf(int code, int i) {
        return (code >>> (7 + 4 * i)) & 15;
    }

    // ---- a pair in one int: its symbol, the two it is from, six bits each, its rule

    private static int madeOf(int pairCode) {
        return pairCode & 63;
    }

    private static int leftOf(int pairCode) {
        return (pairCode >>> 6) & 63;
    }

    private static int rightOf(int pairCode) {
        return (pairCode >>> 12) & 63;
    }

    private static final class Tape {
        final int[] bytes;
        int held;
        int faultKind;
        int faultPlace;

        Tape() {
            bytes = new int[TAPE_BYTES];
            faultPlace = NONE;
        }

        void append(int four) {
            for (int shift = 24; shift >= 0; shift -= 8) {
                putInt(bytes, held, (four >>> shift) & 255);
                held++;
            }
        }

        /** The rule's code; told only where faultKind is 0 then. */
        int takeRule(int n) {
            clear();
            int code = n - 1;
            for (int i = 0; i < n; i++) {
                int symbol = symbolOf(intAt(bytes, i));
                if (i > PARTS) {
                    return fail(3, i);
                }
                if (symbol == NONE || i == 0 && symbol >= NAMES) {
                    return fail(1, i);
                }
                code |= symbol << (3 + 4 * i);
            }
            return n < 2 ? fail(2, n) : code;
        }

        /** The letters, three bits each from the lowest on; told only where faultKind is 0 then. */
        long takeWord(int n) {
            clear();
            long word = 0L;
            for (int i = 0; i < n; i++) {
                int symbol = symbolOf(intAt(bytes, i));
                if (i >= MOST_LETTERS) {
                    return fail(3, i);
                }
                if (symbol < NAMES) {
                    return fail(1, i);
                }
                word |= (long) (symbol - NAMES) << (3 * i);
            }
            return word;
        }

        private void clear() {
            held = 0;
            faultKind = 0;
            faultPlace = NONE;
        }

        private int fail(int kind, int place) {
            faultKind = kind;
            faultPlace = place;
            return 0;
        }

        private static int symbolOf(int sign) {
            if (sign >= 'A' && sign <= 'H') {
                return sign - 'A';
            }
            return sign >= 'a' && sign <= 'f' ? sign - 'a' + NAMES : NONE;
        }
    }

    /** All that calls tell and that can be undone. */
    private static final class Told {
        final int[] rules;
        int top;
        long letterCodes;
        int letters;

        Told() {
            rules = new int[RULES];
        }

        void takeFrom(Told other) {
            for (int r = 0; r < rules.length; r++) {
                rules[r] = other.ruleAt(r);
            }
            top = other.top;
            letterCodes = other.letterCodes;
            letters = other.letters;
        }

        int ruleAt(int r) {
            return intAt(rules, r);
        }

        void setRule(int r, int code) {
            putInt(rules, r, code);
        }

        void setWord(long codes, int n) {
            letterCodes = codes;
            letters = n;
        }

        int letterAt(int i) {
            return NAMES + (int) (letterCodes >>> (3 * i) & 7L);
        }

        int ruleBits() {
            int bits = 0;
            for (int r = 0; r < rules.length; r++) {
                if (rules[r] != 0) {
                    bits |= 1 << r;
                }
            }
            return bits;
        }

        int lowestFree() {
            for (int r = 0; r < rules.length; r++) {
                if (rules[r] == 0) {
                    return r;
                }
            }
            return NONE;
        }

        boolean hasAlike(int code) {
            for (int r = 0; r < rules.length; r++) {
                if (rules[r] == code) {
                    return true;
                }
            }
            return false;
        }
    }

    /** States to go back to: a ring of the latest ones, and the images. */
    private static final class Past {
        final Told[] befores;
        final Told[] images;
        final boolean[] made;
        int newest;
        int held;

        Past() {
            befores = new Told[UNDOABLE];
            for (int i = 0; i < befores.length; i++) {
                befores[i] = new Told();
            }
            images = new Told[IMAGES];
            for (int i = 0; i < images.length; i++) {
                images[i] = new Told();
            }
            made = new boolean[IMAGES];
        }

        void keep(Told told) {
            newest = newest + 1 < UNDOABLE ? newest + 1 : 0;
            Told before = stateAt(befores, newest);
            if (before != null) {
                before.takeFrom(told);
            }
            held = Math.min(held + 1, UNDOABLE);
        }

        void goBack(Told told, int n) {
            int place = newest - (n - 1);
            place = place < 0 ? place + UNDOABLE : place;
            Told before = stateAt(befores, place);
            if (before == null) {
                return;
            }
            told.takeFrom(before);
            newest = place > 0 ? place - 1 : UNDOABLE - 1;
            held -= n;
        }

        void makeImage(Told told, int i) {
            Told kept = stateAt(images, i);
            if (kept != null && i < made.length) {
                kept.takeFrom(told);
                made[i] = true;
            }
        }

        boolean takeImage(Told told, int i) {
            Told kept = stateAt(images, i);
            if (kept == null || i >= made.length || !made[i]) {
                return false;
            }
            told.takeFrom(kept);
            held = 0;
            return true;
        }

        private static Told stateAt(Told[] states, int i) {
            return i >= 0 && i < states.length ? states[i] : null;
        }
    }

    /** The rules as units and pairs, with the way back, and what follows of them alone. */
    private static final class Binary {
        final int[] pairCodes;
        int pairCount;
        final int[] firstPairs;
        final int[] helperRules;
        final int[] helperPlaces;
        int helperCount;
        final int[] unitSteps;
        final int[] unitReach;
        int unitCount;
        final int[] uses;
        final int[] leastLengths;
        /** Symbols that have a least length. */
        long fruitful;
        final int[] ways;
        final int[] waysOnward;

        Binary() {
            pairCodes = new int[MOST_PAIRS];
            firstPairs = new int[RULES];
            helperRules = new int[MOST_HELPERS];
            helperPlaces = new int[MOST_HELPERS];
            unitSteps = new int[NAMES];
            unitReach = new int[NAMES];
            uses = new int[NAMES];
            leastLengths = new int[SYMBOLS];
            ways = new int[NAMES * NAMES];
            waysOnward = new int[NAMES];
        }

        void build(Told told, int withoutRule) {
            pairCount = 0;
            helperCount = 0;
            unitCount = 0;
            for (int x = 0; x < NAMES; x++) {
                putInt(unitSteps, x, 0);
                putInt(uses, x, 0);
            }
            for (int r = 0; r < RULES; r++) {
                int code = told.ruleAt(r);
                if (code != 0 && r != withoutRule) {
                    addRule(r, code);
                }
            }
            followUnits();
        }

        private void addRule(int r, int code) {
            int size = sizeOf(code);
            int head = headOf(code);
            for (int i = 0; i < size; i++) {
                putInt(uses, head, intAt(uses, head) | ((1 << partOf(code, i)) & NAME_BITS));
            }
            if (size == 1) {
                unitCount++;
                putInt(unitSteps, head, intAt(unitSteps, head) | (1 << partOf(code, 0)));
                return;
            }
            putInt(firstPairs, r, pairCount);
            int made = head;
            for (int i = 0; i + 2 < size; i++) {
                int helper = HELPER + helperCount;
                putInt(helperRules, helperCount, r);
                putInt(helperPlaces, helperCount, i + 1);
                helperCount++;
                addPair(made, partOf(code, i), helper, r);
                made = helper;
            }
            addPair(made, partOf(code, size - 2), partOf(code, size - 1), r);
        }

        private void addPair(int made, int left, int right, int r) {
            putInt(pairCodes, pairCount, made | (left << 6) | (right << 12) | (r << 18));
            pairCount++;
        }

        private void followUnits() {
            for (int x = 0; x < NAMES; x++) {
                putInt(unitReach, x, intAt(unitSteps, x));
            }
            for (int over = 0; over < NAMES; over++) {
                for (int x = 0; x < NAMES; x++) {
                    int reach = intAt(unitReach, x);
                    if ((reach >>> over & 1) != 0) {
                        putInt(unitReach, x, reach | intAt(unitReach, over));
                    }
                }
            }
        }

        int symbolCount() {
            return HELPER + helperCount;
        }

        /** What only the rules that stand are asked for, not those less one. */
        void measure() {
            measureLengths();
            for (int x = 0; x < NAMES; x++) {
                countWays(x, 0);
                for (int z = 0; z < NAMES; z++) {
                    putInt(ways, x * NAMES + z, intAt(waysOnward, z));
                }
            }
        }

        private void measureLengths() {
            for (int x = 0; x < symbolCount(); x++) {
                putInt(leastLengths, x, x >= NAMES && x < HELPER ? 1 : NONE);
            }
            fruitful = LETTER_BITS;
            boolean changed = true;
            // the shortest word's tree has no symbol twice on a way down, so as many steps as symbols do
            for (int step = 0; step <= SYMBOLS && changed; step++) {
                boolean byPairs = shortenByPairs();
                changed = shortenByUnits() || byPairs;
            }
        }

        private boolean shortenByPairs() {
            boolean changed = false;
            for (int p = pairCount - 1; p >= 0; p--) {
                int pair = intAt(pairCodes, p);
                int together = intAt(leastLengths, leftOf(pair)) + intAt(leastLengths, rightOf(pair));
                if (fits(pair, fruitful, fruitful) && shorten(madeOf(pair), together)) {
                    changed = true;
                }
            }
            return changed;
        }

        private boolean shortenByUnits() {
            boolean changed = false;
            for (int x = 0; x < NAMES; x++) {
                int steps = intAt(unitSteps, x);
                for (int y = 0; y < HELPER; y++) {
                    boolean useful = (steps >>> y & 1) != 0 && (fruitful >>> y & 1L) != 0;
                    if (useful && shorten(x, intAt(leastLengths, y))) {
                        changed = true;
                    }
                }
            }
            return changed;
        }

        private boolean shorten(int x, int letters) {
            int known = intAt(leastLengths, x);
            if (known != NONE && known <= letters) {
                return false;
            }
            putInt(leastLengths, x, letters);
            fruitful |= 1L << x;
            return true;
        }

        /** Into waysOnward: by how many ways units lead from x to each name, no symbol twice nor one of those barred. */
        void countWays(int x, int barred) {
            for (int z = 0; z < waysOnward.length; z++) {
                waysOnward[z] = 0;
            }
            walk(unitSteps, waysOnward, x, barred, 0);
        }

        private static void walk(int[] steps, int[] arrivals, int x, int barred, int depth) {
            if (depth >= NAMES || x < 0 || x >= steps.length || x >= arrivals.length) {
                return;
            }
            arrivals[x]++;
            int passed = barred | (1 << x);
            int onward = steps[x] & ~passed;
            for (int y = 0; y < NAMES; y++) {
                if ((onward >>> y & 1) != 0) {
                    walk(steps, arrivals, y, passed, depth + 1);
                }
            }
        }

        int reachedFrom(int top) {
            int reach = 1 << top;
            for (int step = 0; step < NAMES; step++) {
                for (int x = 0; x < NAMES; x++) {
                    if ((reach >>> x & 1) != 0) {
                        reach |= intAt(uses, x);
                    }
                }
            }
            return reach;
        }

        static boolean fits(int pairCode, long lefts, long rights) {
            return ((lefts >>> leftOf(pairCode)) & (rights >>> rightOf(pairCode)) & 1L) != 0;
        }

        long joinAll(long lefts, long rights) {
            if (lefts == 0 || rights == 0) {
                return 0L;
            }
            long joined = 0L;
            for (int p = 0; p < pairCount; p++) {
                int pair = intAt(pairCodes, p);
                if (fits(pair, lefts, rights)) {
                    joined |= 1L << madeOf(pair);
                }
            }
            return joined;
        }

        /** With all from which units lead to one of these. */
        long liftAll(long symbols) {
            long lifted = symbols;
            for (int x = 0; x < NAMES; x++) {
                if ((intAt(unitReach, x) & symbols) != 0) {
                    lifted |= 1L << x;
                }
            }
            return lifted;
        }

        /** With all that could begin by one of these: what stands behind it must only be able to derive something. */
        long openAll(long symbols) {
            long open = symbols;
            for (int step = 0; step <= SYMBOLS; step++) {
                long before = open;
                open = liftAll(open | joinAll(open, fruitful));
                if (open == before) {
                    return open;
                }
            }
            return open;
        }
    }

    /** Cells of all spans of a row of places, each of which takes one letter or some. */
    private static final class Chart {
        final boolean alike;
        final int[] places;
        final long[] cells;
        final int[] fewest;
        final long[] begun;
        int size;
        int stampOfChart;

        Chart(boolean placesAlike) {
            alike = placesAlike;
            places = new int[MOST_LETTERS];
            cells = new long[placesAlike ? MOST_LETTERS : SPANS];
            fewest = new int[MOST_LETTERS + 1];
            begun = new long[MOST_LETTERS + 1];
        }

        void readWord(Told told, boolean lastFirst) {
            for (int i = 0; i < told.letters; i++) {
                putInt(places, i, 1 << told.letterAt(lastFirst ? told.letters - 1 - i : i));
            }
        }

        void readAnything() {
            for (int i = 0; i < places.length; i++) {
                places[i] = LETTER_BITS;
            }
        }

        void fill(Binary binary, int letters) {
            size = letters;
            for (int wide = 1; wide <= letters; wide++) {
                int begins = alike ? 1 : letters - wide + 1;
                for (int i = 0; i < begins; i++) {
                    long here = wide == 1 ? intAt(places, i) : joinCuts(binary, i, i + wide);
                    putLong(cells, slotOf(i, i + wide, alike), binary.liftAll(here));
                }
            }
        }

        private long joinCuts(Binary binary, int i, int j) {
            long joined = 0L;
            for (int k = i + 1; k < j; k++) {
                joined |= binary.joinAll(cellAt(i, k), cellAt(k, j));
            }
            return joined;
        }

        boolean hasSpan(int i, int j) {
            return i >= 0 && i < j && j <= size;
        }

        long cellAt(int i, int j) {
            return hasSpan(i, j) ? longAt(cells, slotOf(i, j, alike)) : 0L;
        }

        boolean derives(int x, int i, int j) {
            return (cellAt(i, j) >>> x & 1L) != 0;
        }

        int endsFrom(int x, int i) {
            int ends = 0;
            for (int j = i + 1; j <= size; j++) {
                if (derives(x, i, j)) {
                    ends |= 1 << j;
                }
            }
            return ends;
        }

        /** Into fewest: of the rest from each place on; NONE: there is no way, or no letter at all. */
        int countPieces(int x) {
            putInt(fewest, size, 0);
            for (int i = size - 1; i >= 0; i--) {
                int best = NONE;
                for (int j = i + 1; j <= size; j++) {
                    int rest = intAt(fewest, j);
                    if (rest != NONE && derives(x, i, j) && (best == NONE || rest + 1 < best)) {
                        best = rest + 1;
                    }
                }
                putInt(fewest, i, best);
            }
            return size == 0 ? NONE : intAt(fewest, 0);
        }

        /** Only behind countPieces(), of a piece that is there. */
        int endOfPiece(int x, int piece) {
            int end = 0;
            for (int k = 0; k <= piece; k++) {
                end = nextEnd(x, end);
            }
            return end;
        }

        private int nextEnd(int x, int i) {
            for (int j = i + 1; j <= size; j++) {
                if (derives(x, i, j) && intAt(fewest, j) == intAt(fewest, i) - 1) {
                    return j;
                }
            }
            return size;
        }

        /** Symbols that could derive some word that begins with the letters ahead of place latest, and one of these there. */
        long beginnersOf(Binary binary, int latest, long there) {
            putLong(begun, latest, binary.openAll(there));
            for (int i = latest - 1; i >= 0; i--) {
                long begins = 0L;
                for (int k = i + 1; k <= latest; k++) {
                    begins |= binary.joinAll(cellAt(i, k), longAt(begun, k));
                }
                putLong(begun, i, binary.openAll(begins));
            }
            return longAt(begun, 0);
        }
    }

    /** A number for each symbol over each span, made of those over shorter ones by pairs and by units. */
    private abstract static class Table {
        final Binary binary;
        final Chart there;
        final boolean alike;
        final long nothing;
        final long[] values;
        final long[] fresh;
        int stampOfTable;

        Table(Binary itsBinary, Chart itsChart, boolean placesAlike, long itsNothing) {
            binary = itsBinary;
            there = itsChart;
            alike = placesAlike;
            nothing = itsNothing;
            values = new long[(placesAlike ? MOST_LETTERS : SPANS) * SYMBOLS];
            fresh = new long[SYMBOLS];
        }

        abstract long ofLetter(int letter, int i);

        abstract long ofTwo(long left, long right, int rightSize);

        abstract long merge(long known, long other);

        void fill(int letters) {
            for (int wide = 1; wide <= letters; wide++) {
                int begins = alike ? 1 : letters - wide + 1;
                for (int i = 0; i < begins; i++) {
                    fillSpan(i, i + wide);
                }
            }
        }

        private void fillSpan(int i, int j) {
            int symbols = binary.symbolCount();
            for (int x = 0; x < symbols; x++) {
                putLong(fresh, x, nothing);
            }
            if (j - i == 1) {
                takeLetters(i);
            }
            for (int k = i + 1; k < j; k++) {
                takeCut(i, k, j);
            }
            takeUnits(slotOf(i, j, alike));
            int at = slotOf(i, j, alike) * SYMBOLS;
            for (int x = 0; x < symbols; x++) {
                putLong(values, at + x, longAt(fresh, x));
            }
        }

        private void takeLetters(int i) {
            for (int letter = NAMES; letter < HELPER; letter++) {
                if (there.derives(letter, i, i + 1)) {
                    putLong(fresh, letter, ofLetter(letter, i));
                }
            }
        }

        private void takeCut(int i, int k, int j) {
            long lefts = there.cellAt(i, k);
            long rights = there.cellAt(k, j);
            for (int p = 0; p < binary.pairCount; p++) {
                int pair = intAt(binary.pairCodes, p);
                if (Binary.fits(pair, lefts, rights)) {
                    long two = ofTwo(valueAt(leftOf(pair), i, k), valueAt(rightOf(pair), k, j), j - k);
                    int x = madeOf(pair);
                    putLong(fresh, x, merge(longAt(fresh, x), two));
                }
            }
        }

        void takeUnits(int slot) {
            for (int x = 0; x < NAMES; x++) {
                int reach = intAt(binary.unitReach, x);
                for (int y = 0; y < HELPER; y++) {
                    if ((reach >>> y & 1) != 0 && longAt(fresh, y) != nothing) {
                        putLong(fresh, x, merge(longAt(fresh, x), longAt(fresh, y)));
                    }
                }
            }
        }

        long valueAt(int x, int i, int j) {
            return longAt(values, slotOf(i, j, alike) * SYMBOLS + x);
        }
    }

    /** Values are rounds; NONE: it isn't there. */
    private static final class Rounds extends Table {
        Rounds(Binary itsBinary, Chart itsChart) {
            super(itsBinary, itsChart, false, NONE);
        }

        long ofLetter(int letter, int i) {
            return 0L;
        }

        long ofTwo(long left, long right, int rightSize) {
            return 1L + Math.max(left, right);
        }

        long merge(long known, long other) {
            return known == nothing ? other : Math.min(known, other);
        }

        long greatestAt(int i, int j) {
            long greatest = NONE;
            for (int x = 0; x < binary.symbolCount(); x++) {
                greatest = Math.max(greatest, valueAt(x, i, j));
            }
            return greatest;
        }
    }

    /** Values say by how few other letters, then by which ones: a lesser one is nearer, then earlier by letters. */
    private static final class Nearest extends Table {
        private static final int LETTERS_WIDE = 3 * MOST_LETTERS;
        private static final long LETTERS_MASK = (1L << LETTERS_WIDE) - 1L;
        final Told told;

        Nearest(Binary itsBinary, Chart anyWord, Told itsTold) {
            super(itsBinary, anyWord, false, NONE);
            told = itsTold;
        }

        long ofLetter(int letter, int i) {
            long others = letter == told.letterAt(i) ? 0L : 1L;
            return (others << LETTERS_WIDE) | (letter - NAMES);
        }

        long ofTwo(long left, long right, int rightSize) {
            long others = (left >>> LETTERS_WIDE) + (right >>> LETTERS_WIDE);
            long letters = ((left & LETTERS_MASK) << (3 * rightSize)) | (right & LETTERS_MASK);
            return (others << LETTERS_WIDE) | letters;
        }

        long merge(long known, long other) {
            return known == nothing ? other : Math.min(known, other);
        }

        static int othersIn(long key) {
            return (int) (key >>> LETTERS_WIDE);
        }

        static int letterIn(long key, int fromTheEnd) {
            return NAMES + (int) ((key >>> (3 * fromTheEnd)) & 7L);
        }
    }

    /** Values are how many trees there are; NO_ROOM: above what a long holds. */
    private static final class Forest extends Table {
        /** For each span and name the trees whose first rule is no unit to another name. */
        final long[] bases;

        Forest(Binary itsBinary, Chart itsChart, boolean placesAlike) {
            super(itsBinary, itsChart, placesAlike, 0L);
            bases = new long[(placesAlike ? MOST_LETTERS : SPANS) * NAMES];
        }

        long ofLetter(int letter, int i) {
            return 1L;
        }

        long ofTwo(long left, long right, int rightSize) {
            return times(left, right);
        }

        long merge(long known, long other) {
            return plus(known, other);
        }

        void takeUnits(int slot) {
            int at = slot * NAMES;
            for (int x = 0; x < NAMES; x++) {
                putLong(bases, at + x, plus(longAt(fresh, x), unitsToLetters(x)));
            }
            for (int x = 0; x < NAMES; x++) {
                long all = 0L;
                for (int z = 0; z < NAMES; z++) {
                    all = plus(all, times(intAt(binary.ways, x * NAMES + z), longAt(bases, at + z)));
                }
                putLong(fresh, x, all);
            }
        }

        private long unitsToLetters(int x) {
            int steps = intAt(binary.unitSteps, x);
            long many = 0L;
            for (int letter = NAMES; letter < HELPER; letter++) {
                if ((steps >>> letter & 1) != 0) {
                    many += longAt(fresh, letter);
                }
            }
            return many;
        }

        /** Trees of x over a span in which none of those barred comes along the units from x on. */
        long treesWithout(int barred, int x, int i, int j) {
            binary.countWays(x, barred);
            int at = slotOf(i, j, alike) * NAMES;
            long all = 0L;
            for (int z = 0; z < NAMES; z++) {
                all = plus(all, times(intAt(binary.waysOnward, z), longAt(bases, at + z)));
            }
            return all;
        }

        /** The least name with two trees or more over a span; NO_ROOM: some has too many. */
        int doubtfulAt(int i, int j) {
            int least = NONE;
            for (int x = NAMES - 1; x >= 0; x--) {
                long many = valueAt(x, i, j);
                if (many < 0) {
                    return NO_ROOM;
                }
                least = many > 1L ? x : least;
            }
            return least;
        }

        static long plus(long a, long b) {
            if (a < 0 || b < 0) {
                return NO_ROOM;
            }
            return a > GREATEST - b ? NO_ROOM : a + b;
        }

        static long times(long a, long b) {
            if (a == 0 || b == 0) {
                return 0L;
            }
            if (a < 0 || b < 0) {
                return NO_ROOM;
            }
            return a > GREATEST / b ? NO_ROOM : a * b;
        }
    }

    /** The nodes of one tree of the word, and the forms that they lead through. */
    private static final class Listing {
        static final int WHATS = 5;
        /** A tree has at most 27 spans, over each of which units lead through 8 symbols at most. */
        private static final int MOST_NODES = 27 * NAMES;
        private static final int WAITING_WIDE = 5;

        final Told told;
        final Binary binary;
        final Forest forest;
        /** Each as node() tells it: rule, from, to, the node above, how many are above. */
        final int[] rows;
        int nodeCount;
        /** Parts whose nodes are still to come, the leftmost on top: symbol, from, to, barred, the node above. */
        final int[] waiting;
        final long[] waitingRanks;
        int waitingCount;
        /** The part whose node is made: its symbol, from where, to where, no more along its units, the node above. */
        int symbol;
        int from;
        int to;
        int barred;
        int above;
        /** Which of the trees that are left to choose from. */
        long rank;
        final int[] bounds;
        final int[] formSymbols;
        int formSize;
        int stampOfTree;
        int listedTree;

        Listing(Told itsTold, Binary itsBinary, Forest itsForest) {
            told = itsTold;
            binary = itsBinary;
            forest = itsForest;
            rows = new int[MOST_NODES * WHATS];
            waiting = new int[(MOST_LETTERS + PARTS) * WAITING_WIDE];
            waitingRanks = new long[MOST_LETTERS + PARTS];
            bounds = new int[PARTS + 1];
            formSymbols = new int[MOST_LETTERS + PARTS];
        }

        void list(int m) {
            nodeCount = 0;
            waitingCount = 0;
            rank = m;
            putWaiting(told.top, 0, told.letters, 0, NONE);
            for (int step = 0; step < MOST_NODES && waitingCount > 0; step++) {
                takeWaiting();
                int r = chooseRule();
                int k = putNode(r);
                chooseCuts(r);
                putParts(told.ruleAt(r), k);
            }
        }

        int tell(int k, int what) {
            boolean known = k >= 0 && k < nodeCount && what >= 0 && what < WHATS;
            return known ? intAt(rows, k * WHATS + what) : NO_SUCH;
        }

        /** With the rank of its tree among those it could have, which is what rank says now. */
        private void putWaiting(int x, int begin, int end, int noMore, int parent) {
            int at = waitingCount * WAITING_WIDE;
            putInt(waiting, at, x);
            putInt(waiting, at + 1, begin);
            putInt(waiting, at + 2, end);
            putInt(waiting, at + 3, noMore);
            putInt(waiting, at + 4, parent);
            putLong(waitingRanks, waitingCount, rank);
            waitingCount++;
        }

        private void takeWaiting() {
            waitingCount--;
            int at = waitingCount * WAITING_WIDE;
            symbol = intAt(waiting, at);
            from = intAt(waiting, at + 1);
            to = intAt(waiting, at + 2);
            barred = intAt(waiting, at + 3) | (1 << symbol);
            above = intAt(waiting, at + 4);
            rank = longAt(waitingRanks, waitingCount);
        }

        private int putNode(int r) {
            int k = nodeCount;
            putInt(rows, k * WHATS, r);
            putInt(rows, k * WHATS + 1, from);
            putInt(rows, k * WHATS + 2, to);
            putInt(rows, k * WHATS + 3, above);
            putInt(rows, k * WHATS + 4, above == NONE ? 0 : tell(above, 4) + 1);
            nodeCount++;
            return k;
        }

        private boolean isHere(long many) {
            return many < 0 || rank < many;
        }

        private int chooseRule() {
            for (int r = 0; r < RULES; r++) {
                int code = told.ruleAt(r);
                if (code == 0 || headOf(code) != symbol) {
                    continue;
                }
                long many = sizeOf(code) == 1
                        ? treesByUnit(partOf(code, 0))
                        : treesByPair(intAt(binary.firstPairs, r));
                if (isHere(many)) {
                    return r;
                }
                rank -= many;
            }
            return NONE;
        }

        private long treesByUnit(int y) {
            if (y >= NAMES) {
                return forest.valueAt(y, from, to);
            }
            return (barred >>> y & 1) != 0 ? 0L : forest.treesWithout(barred, y, from, to);
        }

        private long treesByPair(int p) {
            int pair = intAt(binary.pairCodes, p);
            long all = 0L;
            for (int k = from + 1; k < to; k++) {
                long two = Forest.times(forest.valueAt(leftOf(pair), from, k), forest.valueAt(rightOf(pair), k, to));
                all = Forest.plus(all, two);
            }
            return all;
        }

        /** In the order all cuts come ahead of the trees of the parts: what is left of a cut counts as one factor. */
        private void chooseCuts(int r) {
            int size = sizeOf(told.ruleAt(r));
            putInt(bounds, 0, from);
            putInt(bounds, size, to);
            long ahead = 1L;
            int at = from;
            for (int i = 0; i + 1 < size; i++) {
                int pair = intAt(binary.pairCodes, intAt(binary.firstPairs, r) + i);
                int cut = chooseCut(pair, at, ahead);
                ahead = Forest.times(ahead, forest.valueAt(leftOf(pair), at, cut));
                putInt(bounds, i + 1, cut);
                at = cut;
            }
        }

        private int chooseCut(int pair, int at, long ahead) {
            for (int k = at + 1; k < to; k++) {
                long left = Forest.times(ahead, forest.valueAt(leftOf(pair), at, k));
                long many = Forest.times(left, forest.valueAt(rightOf(pair), k, to));
                if (isHere(many)) {
                    return k;
                }
                rank -= many;
            }
            return to;
        }

        /** The last part's tree is the first to change along the order, so ranks are split off from the right. */
        private void putParts(int code, int k) {
            if (sizeOf(code) == 1) {
                if (partOf(code, 0) < NAMES) {
                    putWaiting(partOf(code, 0), from, to, barred, k);
                }
                return;
            }
            long left = rank;
            for (int i = sizeOf(code) - 1; i >= 0; i--) {
                int y = partOf(code, i);
                int begin = intAt(bounds, i);
                int end = intAt(bounds, i + 1);
                long many = forest.valueAt(y, begin, end);
                // where they are too many to tell only the first tree is listed, whose ranks are all 0
                rank = many > 0 ? left % many : 0L;
                left = many > 0 ? left / many : 0L;
                if (y < NAMES) {
                    putWaiting(y, begin, end, 0, k);
                }
            }
        }

        /** Nodes stand in the order in which the leftmost names are replaced. */
        void makeForm(int m) {
            putInt(formSymbols, 0, told.top);
            formSize = 1;
            for (int k = 0; k < m; k++) {
                replaceLeftmost(told.ruleAt(tell(k, 0)));
            }
        }

        private void replaceLeftmost(int code) {
            int place = 0;
            while (place < formSize && intAt(formSymbols, place) >= NAMES) {
                place++;
            }
            int more = sizeOf(code) - 1;
            for (int i = formSize - 1; i > place; i--) {
                putInt(formSymbols, i + more, intAt(formSymbols, i));
            }
            for (int i = 0; i <= more; i++) {
                putInt(formSymbols, place + i, partOf(code, i));
            }
            formSize += more;
        }
    }

    /** For each symbol the sets of short words that it derives, as bits: a word's bit is its letters as a number by sixes. */
    private static final class Vocabulary {
        private static final int[] SIXES = {1, 6, 36, 216, 1296};
        /** Where in a symbol's row the set of words of a length begins; the next one's is its end. */
        private static final int[] BEGINS = {0, 0, 1, 2, 6, 27};
        private static final int ROW = 27;

        final long[] sets;
        int stampOfSets;

        Vocabulary() {
            sets = new long[SYMBOLS * ROW];
        }

        void fill(Binary binary) {
            for (int i = 0; i < sets.length; i++) {
                sets[i] = 0L;
            }
            for (int letter = NAMES; letter < HELPER; letter++) {
                putLong(sets, letter * ROW, 1L << (letter - NAMES));
            }
            for (int n = 1; n <= SHORT_WORD; n++) {
                for (int p = 0; p < binary.pairCount; p++) {
                    for (int k = 1; k < n; k++) {
                        joinSets(intAt(binary.pairCodes, p), k, n - k);
                    }
                }
                liftSets(binary, n);
            }
        }

        private void joinSets(int pair, int leftSize, int rightSize) {
            int left = leftOf(pair) * ROW + intAt(BEGINS, leftSize);
            int right = rightOf(pair) * ROW + intAt(BEGINS, rightSize);
            int longs = intAt(BEGINS, rightSize + 1) - intAt(BEGINS, rightSize);
            int made = madeOf(pair) * ROW + intAt(BEGINS, leftSize + rightSize);
            int lefts = intAt(SIXES, leftSize);
            for (int u = 0; u < lefts; u++) {
                if ((longAt(sets, left + (u >>> 6)) >>> (u & 63) & 1L) != 0) {
                    int shift = u * intAt(SIXES, rightSize);
                    for (int i = 0; i < longs; i++) {
                        addBits(made, shift + 64 * i, longAt(sets, right + i));
                    }
                }
            }
        }

        private void addBits(int at, int shift, long bits) {
            int place = at + (shift >>> 6);
            int within = shift & 63;
            putLong(sets, place, longAt(sets, place) | (bits << within));
            long over = within == 0 ? 0L : bits >>> (64 - within);
            // without bits the next long may be another set's
            if (over != 0) {
                putLong(sets, place + 1, longAt(sets, place + 1) | over);
            }
        }

        private void liftSets(Binary binary, int n) {
            for (int x = 0; x < NAMES; x++) {
                int reach = intAt(binary.unitReach, x);
                for (int y = 0; y < HELPER; y++) {
                    if ((reach >>> y & 1) != 0) {
                        addSet(x * ROW, y * ROW, n);
                    }
                }
            }
        }

        private void addSet(int to, int from, int n) {
            int end = intAt(BEGINS, n + 1);
            for (int i = intAt(BEGINS, n); i < end; i++) {
                putLong(sets, to + i, longAt(sets, to + i) | longAt(sets, from + i));
            }
        }

        int sizeOfSet(int x, int n) {
            int many = 0;
            int end = intAt(BEGINS, n + 1);
            for (int i = intAt(BEGINS, n); i < end; i++) {
                many += Long.bitCount(longAt(sets, x * ROW + i));
            }
            return many;
        }

        int letterOfFirst(int x, int n, int i) {
            int begin = intAt(BEGINS, n);
            int end = intAt(BEGINS, n + 1);
            for (int k = begin; k < end; k++) {
                long bits = longAt(sets, x * ROW + k);
                if (bits != 0) {
                    int word = 64 * (k - begin) + Long.numberOfTrailingZeros(bits);
                    int behind = intAt(SIXES, n - 1 - i);
                    return behind > 0 ? NAMES + word / behind % 6 : NONE;
                }
            }
            return NONE;
        }
    }
}

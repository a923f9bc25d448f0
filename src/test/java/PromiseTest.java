/** For each promise of the document its ordinary answers, its edges and its refusals, reckoned by hand. */
public final class PromiseTest extends Sample {
    private static final int[] WRONG_SYMBOLS = {-1, -2, 14, 62, 63, 64, 127, Integer.MAX_VALUE, Integer.MIN_VALUE};
    private static final int[] WRONG_NAMES = {-1, -2, 8, 13, 14, 32, Integer.MAX_VALUE, Integer.MIN_VALUE};
    private static int wrong = 0;
    private static int asked = 0;
    private static int promise = 0;

    private static void due(String call, long got, long want) {
        asked++;
        if (got != want) {
            wrong++;
            System.out.println("promise " + promise + ": " + call + " answered " + got + ", due is " + want);
        }
    }

    // ---- rules, the word

    private static void newObject() {
        promise = 1;
        BitRecogniser x = new BitRecogniser();
        for (int what = 0; what < 8; what++) {
            due("count(" + what + ")", x.count(what), 0);
        }
        for (int r = 0; r < 16; r++) {
            due("part(" + r + ", NONE)", x.part(r, BitRecogniser.NONE), -2);
            due("drop(" + r + ")", x.drop(r), -2);
        }
        due("rule(0)", x.rule(0), -32);
        due("number(0, 0)", x.number(0, 0), -6);
        due("number(2, 0)", x.number(2, 0), -6);
        due("restore(1)", x.restore(1), -6);
        due("NONE", BitRecogniser.NONE, -1);
    }

    private static void feeding() {
        promise = 2;
        BitRecogniser x = new BitRecogniser();
        due("feed", x.feed(four("AaBb", 0), four("cCzz", 0), -1, 0, 7), 20);
        due("feed", x.feed(0, 0, 0, 0, 0), 40);
        due("feed beyond", x.feed(four("Bb", 0), 0, 0, 0, 0), -4);
        due("count(7)", x.count(7), 40);
        due("rule(6)", x.rule(6), 0);
        int[] parts = {0, 8, 1, 9, 10, 2};
        for (int p = 0; p < parts.length; p++) {
            due("part(0, " + (p - 1) + ")", x.part(0, p - 1), parts[p]);
        }
        due("count(7)", x.count(7), 0);
        due("feed again", x.feed(0x61626364, 0x65666162, 0x63646566, 0x61620000, 0), 20);
        due("word(14)", x.word(14), 14);
        due("cell(11, 12)", x.cell(11, 12), 1L << 13);
        due("cell(13, 14)", x.cell(13, 14), 1L << 9);
        x.feed(0xC1C10000, 0, 0, 0, 0);
        due("rule of signs above 127", x.rule(2), -31);
        due("fault(1)", x.fault(1), 0);
    }

    private static void telling() {
        promise = 3;
        BitRecogniser x = new BitRecogniser();
        due("Aa", rule(x, "Aa"), 0);
        due("Hf", rule(x, "Hf"), 1);
        due("AHHHHH", rule(x, "AHHHHH"), 2);
        due("alike", rule(x, "Hf"), -5);
        due("count(7)", x.count(7), 0);
        due("count(6)", x.count(6), 3);
        due("AHHHHf", rule(x, "AHHHHf"), 3);
        x.drop(1);
        x.drop(0);
        due("lowest free", rule(x, "Bb"), 0);
        due("next free", rule(x, "Bc"), 1);
        due("then", rule(x, "Bd"), 4);
        due("other symbol, the same parts", rule(x, "Cd"), 5);
        due("more parts", rule(x, "Bdd"), 6);
        feed(x, "Ea");
        due("rule(-1)", x.rule(-1), -3);
        due("rule(21)", x.rule(21), -3);
        due("rule(MIN)", x.rule(Integer.MIN_VALUE), -3);
        due("rule(MAX)", x.rule(Integer.MAX_VALUE), -3);
        due("the tape stays", x.count(7), 20);
        due("rule(2)", x.rule(2), 7);
        faultyRules(x);
        sixteenRules();
    }

    private static void faultyRules(BitRecogniser x) {
        String[] texts = {"aA", "Ia", "@a", "`a", "Ag", "A`", "A@", "AI", "A", "", "AaaaaI", "AaaaaaI", "Aaaaaaa", "AaaIaaa", "I", "AaaaaaaaaI",
            "A\u00e1", "\u00c1a"};
        int[] kinds = {1, 1, 1, 1, 1, 1, 1, 1, 2, 2, 1, 3, 3, 1, 1, 3, 1, 1};
        int[] places = {0, 0, 0, 0, 1, 1, 1, 1, 1, 0, 5, 6, 6, 3, 0, 6, 1, 0};
        int undoable = x.count(6);
        for (int k = 0; k < texts.length; k++) {
            due("rule " + texts[k], rule(x, texts[k]), -30 - kinds[k]);
            due("fault(0) of " + texts[k], x.fault(0), kinds[k]);
            due("fault(1) of " + texts[k], x.fault(1), places[k]);
            due("count(7)", x.count(7), 0);
        }
        due("count(0)", x.count(0), 8);
        due("count(6)", x.count(6), undoable);
    }

    private static void sixteenRules() {
        BitRecogniser x = full();
        due("count(0)", x.count(0), 16);
        feed(x, "Aaaaaa");
        due("rule(6) of a 17th", x.rule(6), -4);
        due("rule(1)", x.rule(1), -4);
        due("rule(21)", x.rule(21), -3);
        due("rule(-1)", x.rule(-1), -3);
        due("the tape stays", x.count(7), 20);
        due("fault(0)", x.fault(0), 0);
        x.drop(9);
        due("alike", x.rule(6), -5);
        due("the one that is free", rule(x, "Ba"), 9);
    }

    private static void wording() {
        promise = 4;
        BitRecogniser x = new BitRecogniser();
        due("word abcdef", word(x, "abcdef"), 6);
        for (int i = 0; i < 6; i++) {
            due("cell", x.cell(i, i + 1), 256L << i);
        }
        due("alike", word(x, "abcdef"), 6);
        due("count(6)", x.count(6), 2);
        feed(x, "ab");
        due("word(-1)", x.word(-1), -3);
        due("word(21)", x.word(21), -3);
        due("the tape stays", x.count(7), 20);
        due("count(5)", x.count(5), 6);
        String[] texts = {"A", "g", "`", "aaH", "aaaaaaaaaaaaaaa", "aaaaaaaaaaaaaaZ", "aaaaaaaaaaaaaZa", "\u00e1"};
        int[] kinds = {1, 1, 1, 1, 3, 3, 1, 1};
        int[] places = {0, 0, 0, 2, 14, 14, 13, 0};
        x.word(0);
        word(x, "abc");
        int undoable = x.count(6);
        for (int k = 0; k < texts.length; k++) {
            due("word " + texts[k], word(x, texts[k]), -30 - kinds[k]);
            due("fault(0) of " + texts[k], x.fault(0), kinds[k]);
            due("fault(1) of " + texts[k], x.fault(1), places[k]);
            due("count(7)", x.count(7), 0);
            due("count(5)", x.count(5), 3);
        }
        due("count(6)", x.count(6), undoable);
        due("word of fourteen", word(x, LONGEST), 14);
        due("word of none", x.word(0), 0);
        due("count(5)", x.count(5), 0);
        due("word where there are 16 rules", word(full(), "ab"), 2);
    }

    private static void faults() {
        promise = 5;
        BitRecogniser x = new BitRecogniser();
        due("fault(0)", x.fault(0), 0);
        due("fault(1)", x.fault(1), -1);
        rule(x, "AaZ");
        due("fault(0)", x.fault(0), 1);
        due("fault(1)", x.fault(1), 2);
        feed(x, "Aa");
        due("rule(-1)", x.rule(-1), -3);
        due("rule(21)", x.rule(21), -3);
        due("word(21)", x.word(21), -3);
        due("fault(1) stays", x.fault(1), 2);
        x.rule(2);
        due("fault(0) of a good one", x.fault(0), 0);
        due("fault(1) of a good one", x.fault(1), -1);
        x.rule(0);
        due("fault(0) of no byte", x.fault(0), 2);
        due("fault(1) of no byte", x.fault(1), 0);
        rule(x, "Aa");
        due("fault(0) of one alike", x.fault(0), 0);
        due("fault(1) of one alike", x.fault(1), -1);
        word(x, "abZ");
        x.undo(1);
        due("fault(1) behind undo", x.fault(1), 2);
        x.word(0);
        due("fault(0) of a word of no byte", x.fault(0), 0);
        int[] others = {-1, 2, 3, Integer.MIN_VALUE, Integer.MAX_VALUE};
        for (int what : others) {
            due("fault(" + what + ")", x.fault(what), -1);
        }
        BitRecogniser y = full();
        word(y, "Z");
        y.rule(0);
        due("fault(0) behind -4", y.fault(0), 1);
    }

    private static void dropping() {
        promise = 6;
        BitRecogniser x = wound("abcb");
        due("drop(5)", x.drop(5), -2);
        due("drop(-1)", x.drop(-1), -2);
        due("drop(16)", x.drop(16), -2);
        due("drop(MAX)", x.drop(Integer.MAX_VALUE), -2);
        due("count(6)", x.count(6), 6);
        due("accepted()", x.accepted(), 1);
        due("drop(3)", x.drop(3), 4);
        due("accepted()", x.accepted(), 0);
        due("drop(3) again", x.drop(3), -2);
        due("drop(0)", x.drop(0), 3);
        due("count(1)", x.count(1), 22);
        due("part(4, NONE)", x.part(4, -1), 1);
    }

    private static void starting() {
        promise = 7;
        BitRecogniser x = wound("bb");
        due("start(0)", x.start(0), -5);
        for (int name : WRONG_NAMES) {
            due("start(" + name + ")", x.start(name), -2);
        }
        due("count(6)", x.count(6), 6);
        due("start(1)", x.start(1), 0);
        due("accepted()", x.accepted(), 1);
        due("start(1)", x.start(1), -5);
        due("start(7)", x.start(7), 1);
        due("accepted()", x.accepted(), 0);
        due("count(4)", x.count(4), 7);
    }

    private static void parts() {
        promise = 8;
        BitRecogniser x = wound("");
        int[] parts = {0, 8, 1, 10, 1, -1, -1};
        for (int i = 0; i < parts.length; i++) {
            due("part(0, " + (i - 1) + ")", x.part(0, i - 1), parts[i]);
        }
        due("part(1, 0)", x.part(1, 0), 2);
        due("part(1, 1)", x.part(1, 1), -1);
        due("part(1, MAX)", x.part(1, Integer.MAX_VALUE), -1);
        due("part(1, -2)", x.part(1, -2), -3);
        due("part(1, MIN)", x.part(1, Integer.MIN_VALUE), -3);
        due("part(5, -2)", x.part(5, -2), -2);
        due("part(-1, 0)", x.part(-1, 0), -2);
        due("part(16, 0)", x.part(16, 0), -2);
    }

    // ---- binary

    private static void pairCounts() {
        promise = 9;
        due("pairs()", new BitRecogniser().pairs(), 0);
        due("pairs()", wound("").pairs(), 4);
        BitRecogniser x = full();
        due("pairs()", x.pairs(), 64);
        x.drop(3);
        due("pairs()", x.pairs(), 60);
        due("pairs() of units", grammar("", "AB", "Ba").pairs(), 0);
    }

    private static void pairRows() {
        promise = 10;
        BitRecogniser x = wound("");
        int[][] rows = {{0, 8, 14, 0}, {14, 1, 15, 0}, {15, 10, 1, 0}, {1, 9, 9, 4}};
        checkPairs(x, rows);
        due("pair(4, 0)", x.pair(4, 0), -2);
        due("pair(-1, 0)", x.pair(-1, 0), -2);
        due("pair(0, 4)", x.pair(0, 4), -2);
        due("pair(0, -1)", x.pair(0, -1), -2);
        due("pair(MAX, 0)", x.pair(Integer.MAX_VALUE, 0), -2);
        rule(x, "HABCDE");
        x.drop(0);
        checkPairs(x, new int[][] {{1, 9, 9, 4}, {7, 0, 14, 5}, {14, 1, 15, 5}, {15, 2, 16, 5}, {16, 3, 4, 5}});
        due("the last of 64, its right one", full().pair(63, 2), 11);
        due("the last of 64, its symbol", full().pair(63, 0), 61);
        due("the last of 64, its rule", full().pair(63, 3), 15);
    }

    private static void checkPairs(BitRecogniser x, int[][] rows) {
        for (int p = 0; p < rows.length; p++) {
            for (int what = 0; what < 4; what++) {
                due("pair(" + p + ", " + what + ")", x.pair(p, what), rows[p][what]);
            }
        }
    }

    private static void wayBack() {
        promise = 11;
        BitRecogniser x = wound("");
        rule(x, "DABC");
        int[][] rows = {{0, 1}, {0, 2}, {5, 1}};
        for (int h = 0; h < rows.length; h++) {
            due("back(" + (14 + h) + ", 0)", x.back(14 + h, 0), rows[h][0]);
            due("back(" + (14 + h) + ", 1)", x.back(14 + h, 1), rows[h][1]);
        }
        due("back(17, 0)", x.back(17, 0), -2);
        due("back(13, 0)", x.back(13, 0), -2);
        due("back(0, 0)", x.back(0, 0), -2);
        due("back(-1, 1)", x.back(-1, 1), -2);
        due("back(14, 2)", x.back(14, 2), -2);
        due("back(14, -1)", x.back(14, -1), -2);
        due("back(MAX, 0)", x.back(Integer.MAX_VALUE, 0), -2);
        due("back(61, 0)", full().back(61, 0), 15);
        due("back(61, 1)", full().back(61, 1), 3);
        due("back(62, 0)", full().back(62, 0), -2);
    }

    private static void unitSets() {
        promise = 12;
        BitRecogniser x = grammar("", "AB", "BC", "CD", "Dd", "EE", "EF", "FE", "Ff", "GHa", "HG");
        int[] sets = {0x80F, 0x80E, 0x80C, 0x808, 0x2030, 0x2030, 0x40, 0xC0};
        for (int n = 0; n < 8; n++) {
            due("units(" + n + ")", x.units(n), sets[n]);
        }
        for (int n : WRONG_NAMES) {
            due("units(" + n + ")", x.units(n), -2);
        }
    }

    private static void unitRounds() {
        promise = 13;
        due("rounds()", new BitRecogniser().rounds(), 0);
        due("rounds()", wound("").rounds(), 6);
        due("rounds() of one alone", grammar("", "CC").rounds(), 4);
        due("rounds() of a ring of eight", grammar("", "AB", "BC", "CD", "DE", "EF", "FG", "GH", "HA").rounds(), 255);
        due("rounds() beside it", grammar("", "AB", "BC", "CB", "HA", "AHH").rounds(), 6);
    }

    private static void leastLengths() {
        promise = 14;
        BitRecogniser x = wound("");
        int[] least = {4, 1, 1, -1, -1, -1, -1, -1, 1, 1, 1, 1, 1, 1, 3, 2};
        for (int n = 0; n < least.length; n++) {
            due("least(" + n + ")", x.least(n), least[n]);
        }
        due("least(16)", x.least(16), -2);
        due("least(-1)", x.least(-1), -2);
        due("least(MAX)", x.least(Integer.MAX_VALUE), -2);
        BitRecogniser y = grammar("", "ABBBBB", "BCCCCC", "CDDDDD", "DEEEEE", "EFFFFF", "FGGGGG", "GHHHHH", "Haaaaa");
        due("least of eight steps", y.least(0), 390625);
        due("least of its first helper", y.least(14), 312500);
        due("least of the last helper", y.least(37), 2);
        due("least of a unit that leads to A", grammar("", "BA", "Aab").least(1), 2);
        BitRecogniser z = grammar("", "ABB", "BAA", "AAA", "CAa");
        due("least of what never ends", z.least(0), -1);
        due("least of what needs it", z.least(2), -1);
        rule(z, "Bb");
        due("least(0)", z.least(0), 2);
        due("least(2)", z.least(2), 3);
        due("least of what a rule ahead makes shorter", grammar("", "Bcc", "ABB", "Bcccc").least(0), 4);
        due("least of what a rule behind makes shorter", grammar("", "Bcccc", "ABB", "Bcc").least(0), 4);
        due("least of what a unit makes shorter", grammar("", "ABB", "Bcccc", "BC", "Cd").least(0), 2);
    }

    private static void reaching() {
        promise = 15;
        BitRecogniser x = grammar("", "ABC", "Bb", "CDC", "Da", "EA", "Ff");
        due("reached(0)", x.reached(0), 15);
        due("reached(1)", x.reached(1), 10);
        x.start(4);
        due("reached(0)", x.reached(0), 31);
        due("reached(1)", x.reached(1), 10);
        x.start(5);
        due("reached(0)", x.reached(0), 32);
        due("reached(1)", x.reached(1), 32);
        due("reached(2)", x.reached(2), -2);
        due("reached(-1)", x.reached(-1), -2);
        due("reached(0) alone", new BitRecogniser().reached(0), 1);
        due("reached(1) alone", new BitRecogniser().reached(1), 0);
        BitRecogniser y = grammar("", "HG", "GF", "FE", "ED", "DC", "CB", "BA");
        y.start(7);
        due("reached(0) along seven steps", y.reached(0), 255);
    }

    // ---- spans

    private static void cells() {
        promise = 16;
        BitRecogniser x = wound("abcb");
        due("cell(0, 1)", x.cell(0, 1), 256);
        due("cell(1, 2)", x.cell(1, 2), 518);
        due("cell(0, 2)", x.cell(0, 2), 0);
        due("cell(2, 4)", x.cell(2, 4), 1L << 15);
        due("cell(1, 4)", x.cell(1, 4), 1L << 14);
        due("cell(0, 4)", x.cell(0, 4), 1);
        int[][] none = {{0, 0}, {1, 0}, {4, 4}, {-1, 2}, {0, 5}, {3, 5}, {4, 5}, {0, Integer.MAX_VALUE}, {Integer.MIN_VALUE, 1}};
        for (int[] span : none) {
            due("cell(" + span[0] + ", " + span[1] + ")", x.cell(span[0], span[1]), -2);
        }
        due("cell(0, 1) of no word", new BitRecogniser().cell(0, 1), -2);
        BitRecogniser y = full();
        word(y, "aadd");
        due("a cell of many helpers", Long.bitCount(y.cell(1, 4)), 1);
        due("the highest bit", y.cell(2, 4), 1L << 61);
        due("cell(0, 14)", doubling(LONGEST).cell(0, 14), 1);
        due("cell(13, 14)", doubling(LONGEST).cell(13, 14), 257);
    }

    private static void accepting() {
        promise = 17;
        due("abcb", wound("abcb").accepted(), 1);
        due("abbcbb", wound("abbcbb").accepted(), 1);
        due("abcbbb", wound("abcbbb").accepted(), 0);
        due("abc", wound("abc").accepted(), 0);
        due("no letters", wound("").accepted(), 0);
        due("fourteen", doubling(LONGEST).accepted(), 1);
        due("two units", grammar("f", "AB", "BC", "Cf").accepted(), 1);
    }

    private static void oneRound() {
        promise = 18;
        BitRecogniser x = wound("abcb");
        due("round(0, 0, 4)", x.round(0, 0, 4), 3);
        due("round(14, 1, 4)", x.round(14, 1, 4), 2);
        due("round(15, 2, 4)", x.round(15, 2, 4), 1);
        due("round(1, 1, 2)", x.round(1, 1, 2), 0);
        due("round(2, 3, 4)", x.round(2, 3, 4), 0);
        due("round(8, 0, 1)", x.round(8, 0, 1), 0);
        due("round(9, 0, 1)", x.round(9, 0, 1), -1);
        due("round(0, 0, 3)", x.round(0, 0, 3), -1);
        due("round(16, 0, 3)", x.round(16, 0, 3), -2);
        due("round(-1, 0, 3)", x.round(-1, 0, 3), -2);
        due("round(0, 0, 5)", x.round(0, 0, 5), -2);
        due("round(0, 2, 2)", x.round(0, 2, 2), -2);
        BitRecogniser y = doubling(LONGEST);
        int[] rounds = {0, 1, 2, 2, 3, 3, 3, 3, 4, 4, 4, 4, 4, 4};
        for (int j = 1; j <= 14; j++) {
            due("round(0, 0, " + j + ")", y.round(0, 0, j), rounds[j - 1]);
        }
        due("units cost no round", grammar("aa", "AB", "BC", "CDD", "Da").round(0, 0, 2), 1);
        due("a unit that leads to A", grammar("abb", "BA", "AaC", "Cbb").round(1, 0, 3), 2);
        due("one letter at a time", grammar("aaaaaa", "AaA", "Aa").round(0, 0, 6), 5);
    }

    private static void lastRound() {
        promise = 19;
        due("no word", doubling("").last(), -1);
        due("letters alone", new BitRecogniser().last(), -1);
        due("no rules", grammar("abc").last(), 0);
        due("doubling", doubling(LONGEST).last(), 4);
        due("wound", wound("abcb").last(), 3);
        due("wound, not as a whole", wound("bcb").last(), 2);
        due("line", grammar(LONGEST, "AaA", "Aa").last(), 13);
        due("other symbols", grammar("bbbaa", "Aa", "BBb", "Bb").last(), 2);
    }

    private static void products() {
        promise = 20;
        BitRecogniser x = doubling("aaa");
        due("product(0, 0, 0)", x.product(0, 0, 0), 12);
        due("product(0, 0, 1)", x.product(0, 0, 1), 8);
        due("product(0, 0, 2)", x.product(0, 0, 2), 0);
        due("product(0, 0, 3)", x.product(0, 0, 3), 0);
        due("product(8, 8, 0)", x.product(8, 8, 0), 4);
        due("product(8, 0, 0)", x.product(8, 0, 0), 12);
        due("product(9, 0, 0)", x.product(9, 0, 0), 0);
        due("product(0, 0, 4)", x.product(0, 0, 4), -2);
        due("product(0, 0, -1)", x.product(0, 0, -1), -2);
        for (int n : WRONG_SYMBOLS) {
            due("product(" + n + ", 0, 0)", x.product(n, 0, 0), -2);
            due("product(0, " + n + ", 0)", x.product(0, n, 0), -2);
        }
        due("product of helpers", wound("abcb").product(1, 15, 1), 16);
        due("product at no word", new BitRecogniser().product(0, 8, 0), 0);
    }

    private static void cutCounts() {
        promise = 21;
        BitRecogniser x = doubling("aaaa");
        due("cuts(0, 0, 0, 4)", x.cuts(0, 0, 0, 4), 3);
        due("cuts(0, 0, 1, 3)", x.cuts(0, 0, 1, 3), 1);
        due("cuts(0, 0, 1, 2)", x.cuts(0, 0, 1, 2), 0);
        due("cuts(8, 0, 0, 4)", x.cuts(8, 0, 0, 4), 1);
        due("cuts(0, 8, 0, 4)", x.cuts(0, 8, 0, 4), 1);
        due("cuts(9, 0, 0, 4)", x.cuts(9, 0, 0, 4), 0);
        due("cuts(0, 0, 0, 5)", x.cuts(0, 0, 0, 5), -2);
        due("cuts(0, 0, 2, 2)", x.cuts(0, 0, 2, 2), -2);
        due("cuts(0, 0, -1, 2)", x.cuts(0, 0, -1, 2), -2);
        for (int n : WRONG_SYMBOLS) {
            due("cuts(" + n + ", 0, 0, 4)", x.cuts(n, 0, 0, 4), -2);
            due("cuts(0, " + n + ", 0, 4)", x.cuts(0, n, 0, 4), -2);
        }
    }

    private static void rows() {
        promise = 22;
        BitRecogniser x = wound("abbcb");
        due("row(1, 1)", x.row(1, 1), 12);
        due("row(2, 1)", x.row(2, 1), 12);
        due("row(0, 0)", x.row(0, 0), 32);
        due("row(14, 1)", x.row(14, 1), 32);
        due("row(8, 0)", x.row(8, 0), 2);
        due("row(0, 5)", x.row(0, 5), 0);
        due("row(0, 6)", x.row(0, 6), -2);
        due("row(0, -1)", x.row(0, -1), -2);
        due("row(16, 0)", x.row(16, 0), -2);
        due("row(-1, 0)", x.row(-1, 0), -2);
        due("row of fourteen", doubling(LONGEST).row(0, 0), 32766);
        due("row at no word", new BitRecogniser().row(0, 0), 0);
    }

    private static void spanCounts() {
        promise = 23;
        BitRecogniser x = wound("abbcbb");
        due("spans(1, 0)", x.spans(1, 0), 6);
        due("spans(1, 1)", x.spans(1, 1), 2);
        due("spans(1, 2)", x.spans(1, 2), 1);
        due("spans(0, 0)", x.spans(0, 0), 2);
        due("spans(0, 1)", x.spans(0, 1), 6);
        due("spans(0, 2)", x.spans(0, 2), 0);
        due("spans(9, 0)", x.spans(9, 0), 4);
        due("spans(9, 2)", x.spans(9, 2), 1);
        due("spans(3, 0)", x.spans(3, 0), 0);
        due("spans(3, 1)", x.spans(3, 1), 0);
        due("spans(3, 2)", x.spans(3, 2), -1);
        due("spans(0, 3)", x.spans(0, 3), -2);
        due("spans(0, -1)", x.spans(0, -1), -2);
        due("spans(16, 0)", x.spans(16, 0), -2);
        due("spans(-1, 0)", x.spans(-1, 0), -2);
        due("the first of the longest", grammar("aabaa", "Aaa", "Aa").spans(0, 2), 0);
        due("spans of fourteen", doubling(LONGEST).spans(0, 0), 105);
    }

    // ---- trees

    private static void treeCounts() {
        promise = 24;
        BitRecogniser x = doubling(LONGEST);
        long[] catalan = {1, 1, 2, 5, 14, 42, 132, 429, 1430, 4862, 16796, 58786, 208012, 742900};
        for (int j = 1; j <= 14; j++) {
            due("trees(0, 0, " + j + ")", x.trees(0, 0, j), catalan[j - 1]);
        }
        due("trees(1, 0, 1)", x.trees(1, 0, 1), 0);
        due("trees(8, 0, 1)", x.trees(8, 0, 1), -2);
        due("trees(-1, 0, 1)", x.trees(-1, 0, 1), -2);
        due("trees(0, 0, 15)", x.trees(0, 0, 15), -2);
        due("trees(0, 1, 1)", x.trees(0, 1, 1), -2);
        // A a, A B a, A C a, A B C a, A C B a
        BitRecogniser y = grammar("a", "Aa", "Ba", "Ca", "AB", "AC", "BC", "CB", "BA", "CA", "AA");
        due("along units no symbol twice", y.trees(0, 0, 1), 5);
        due("parts in a row", grammar("aaaa", "AABBB", "AABB", "ABB", "Aa", "Ba", "BBB").trees(0, 0, 4), 9);
        BitRecogniser z = overgrown();
        due("too many", z.trees(0, 0, 14), -7);
        due("not yet", z.trees(2, 0, 1), 5);
        // A by its pairs has too many, by D 742900 more
        BitRecogniser more = grammar(LONGEST, "Aa", "Ba", "AAA", "AAB", "ABA", "ABB", "BAA", "BAB", "BBA", "BBB", "AB", "BA", "AD", "DDD", "Da");
        due("too many and some more", more.trees(0, 0, 14), -7);
        due("those alone", more.trees(3, 0, 14), 742900);
        due("a helper's too many by none", grammar("aaaaaaaaaaaaaa", "CAAb", "Aa").trees(2, 0, 14), 0);
    }

    private static void doubts() {
        promise = 25;
        BitRecogniser x = doubling("aaaa");
        due("doubtful(0)", x.doubtful(0), 0);
        due("doubtful(1)", x.doubtful(1), 0);
        due("doubtful(2)", x.doubtful(2), 3);
        BitRecogniser y = grammar("baab", "DE", "DF", "Ea", "Fa", "CE", "CF", "Ab", "Hb");
        due("the shortest, then the first, then the least: its symbol", y.doubtful(0), 2);
        due("from where", y.doubtful(1), 1);
        due("to where", y.doubtful(2), 2);
        due("none", wound("abcb").doubtful(0), -1);
        due("none of no word", doubling("").doubtful(2), -1);
        due("doubtful(3)", x.doubtful(3), -2);
        due("doubtful(-1)", x.doubtful(-1), -2);
        BitRecogniser z = overgrown();
        due("some has too many", z.doubtful(0), -7);
        due("what first", z.doubtful(3), -2);
        z.start(7);
        due("START is no matter", z.doubtful(1), -7);
    }

    private static void nodeCounts() {
        promise = 26;
        due("wound", wound("abcb").nodes(), 5);
        due("not accepted", wound("abc").nodes(), 0);
        due("no word", wound("").nodes(), 0);
        due("doubling", doubling(LONGEST).nodes(), 27);
        due("one", grammar("a", "Aa").nodes(), 1);
        // units lead through all eight above each letter but not above the pairs
        BitRecogniser x = grammar(LONGEST, "AB", "BC", "CD", "DE", "EF", "FG", "GH", "Ha", "HAA");
        due("eight over each of 27 spans", x.nodes(), 216);
        due("the last one's depth", x.node(215, 4), 8 * 14 - 1);
        due("more trees than can be told", overgrown().nodes() > 0 ? 1 : 0, 1);
    }

    private static void nodeRows() {
        promise = 27;
        BitRecogniser x = wound("abcbb");
        int[][] rows = {{0, 0, 5, -1, 0}, {1, 1, 2, 0, 1}, {3, 1, 2, 1, 2}, {4, 3, 5, 0, 1}};
        checkNodes(x, rows);
        due("node(4, 0)", x.node(4, 0), -2);
        due("node(-1, 0)", x.node(-1, 0), -2);
        due("node(0, 5)", x.node(0, 5), -2);
        due("node(0, -1)", x.node(0, -1), -2);
        due("not accepted", wound("abc").node(0, 0), -2);
        // the rule of the least number with which there is a tree, and of its cuts the least row
        checkNodes(doubling("aaa"), new int[][] {{0, 0, 3, -1, 0}, {1, 0, 1, 0, 1}, {0, 1, 3, 0, 1}, {1, 1, 2, 2, 2}, {1, 2, 3, 2, 2}});
        checkNodes(grammar("aaa", "Aa", "AAA"), new int[][] {{1, 0, 3, -1, 0}, {0, 0, 1, 0, 1}, {1, 1, 3, 0, 1}});
        // A B would come back to A, so rule 0 has no tree
        checkNodes(grammar("aa", "AB", "BA", "Aaa"), new int[][] {{2, 0, 2, -1, 0}});
        checkNodes(grammar("aa", "AB", "BA", "ABB", "Ba"), new int[][] {{2, 0, 2, -1, 0}, {3, 0, 1, 0, 1}, {3, 1, 2, 0, 1}});
        checkNodes(startAt(grammar("aa", "BA", "AB", "Aaa"), 1), new int[][] {{0, 0, 2, -1, 0}, {2, 0, 2, 0, 1}});
        checkNodes(startAt(grammar("aab", "CBb", "BA", "AB", "Aaa"), 2), new int[][] {{0, 0, 3, -1, 0}, {1, 0, 2, 0, 1}, {3, 0, 2, 1, 2}});
        checkNodes(startAt(grammar("ab", "CaB", "BA", "Ab"), 2), new int[][] {{0, 0, 2, -1, 0}, {1, 1, 2, 0, 1}, {2, 1, 2, 1, 2}});
        // the same where the trees are too many to tell: A over all by B, C, A is none, by A A the first
        checkNodes(overgrown(), new int[][] {{3, 0, 14, -1, 0}, {0, 0, 1, 0, 1}, {3, 1, 14, 0, 1}, {0, 1, 2, 2, 2}});
    }

    private static void checkNodes(BitRecogniser x, int[][] rows) {
        for (int k = 0; k < rows.length; k++) {
            for (int what = 0; what < 5; what++) {
                due("node(" + k + ", " + what + ")", x.node(k, what), rows[k][what]);
            }
        }
    }

    private static void treeRows() {
        promise = 28;
        BitRecogniser x = doubling("aaaa");
        // cuts 1|2|3 of the whole: 2, 1 and 2 trees
        int[] cutOfTop = {1, 1, 2, 3, 3};
        int[] cutBelow = {2, 3, 1, 1, 2};
        for (int m = 0; m < 5; m++) {
            due("tree(" + m + ", -1, 0)", x.tree(m, -1, 0), 7);
            due("cut of tree " + m, x.tree(m, 1, 2), cutOfTop[m]);
            int below = m < 2 ? x.tree(m, 3, 2) : x.tree(m, 2, 2);
            due("cut below of tree " + m, below, cutBelow[m]);
        }
        due("tree(4, 6, 3)", x.tree(4, 6, 3), 0);
        due("tree(5, -1, 0)", x.tree(5, -1, 0), -3);
        due("tree(-1, -1, 0)", x.tree(-1, -1, 0), -3);
        due("tree(5, 9, 9)", x.tree(5, 9, 9), -3);
        due("tree(0, 7, 0)", x.tree(0, 7, 0), -2);
        due("tree(0, -2, 0)", x.tree(0, -2, 0), -2);
        due("tree(0, 0, 5)", x.tree(0, 0, 5), -2);
        due("tree(0, -1, 5)", x.tree(0, -1, 5), -2);
        due("tree(0, -1, -1)", x.tree(0, -1, -1), -2);
        due("tree(0, -1, 4)", x.tree(0, -1, 4), 7);
        due("tree(0, 0, 0) of no word", doubling("").tree(0, 0, 0), -3);
        due("tree(0, 0, 0) not accepted", wound("abc").tree(0, 0, 0), -3);
        BitRecogniser z = overgrown();
        due("too many", z.tree(0, -1, 0), -7);
        due("too many, told first", z.tree(-1, -2, 9), -7);
        // all rows of cuts come ahead of the first part's trees, these ahead of the second one's
        BitRecogniser y = grammar("aaaa", "ABBB", "Ba", "BC", "BBB", "Ca");
        // three rows of cuts, two trees for each letter: 16 trees each
        due("how many", y.trees(0, 0, 4), 48);
        due("cuts of tree 0", 10 * y.tree(0, 1, 2) + y.tree(0, 2, 2), 12);
        due("tree 15 has the first row", 10 * y.tree(15, 1, 2) + endOfSecond(y, 15), 12);
        due("tree 16 the second", 10 * y.tree(16, 1, 2) + endOfSecond(y, 16), 13);
        due("tree 32 the third", y.tree(32, 1, 2), 2);
        due("tree 7 has a first part like tree 0", y.tree(7, 1, 0), 1);
        due("tree 8 another one", y.tree(8, 1, 0), 2);
        due("tree 4 another second part", y.tree(4, 2, 0), 2);
        due("tree 1 another last letter", y.tree(1, -1, 0), y.tree(0, -1, 0) + 1);
        BitRecogniser u = grammar("a", "AB", "AC", "Aa", "BC", "BA", "Ba", "CB", "Ca");
        // A B C a, A B a, A C B a, A C a, A a
        int[] sizes = {3, 2, 3, 2, 1};
        for (int m = 0; m < sizes.length; m++) {
            due("tree(" + m + ", -1, 0) of units", u.tree(m, -1, 0), sizes[m]);
        }
        due("the last rule of tree 2", u.tree(2, 2, 0), 5);
        // twelve letters by B, each of which can also go by C: tree m has C where m has a bit
        BitRecogniser b = grammar("aaaaaaaaaaaaa", "AABBBB", "Aa", "Ba", "BC", "Ca");
        due("no C", b.tree(0, -1, 0), 16);
        due("C at the last", b.tree(1, 15, 0), 3);
        due("C at the first", b.tree(2048, 4, 0), 3);
        due("C everywhere", b.tree(4095, -1, 0), 28);
        due("tree 4096", b.tree(4096, -1, 0), -3);
    }

    private static int endOfSecond(BitRecogniser x, int m) {
        for (int k = 1; k < x.tree(m, -1, 0); k++) {
            if (x.tree(m, k, 3) == 0 && x.tree(m, k, 1) > 0) {
                return x.tree(m, k, 2);
            }
        }
        return -9;
    }

    private static void losses() {
        promise = 29;
        BitRecogniser x = wound("abcb");
        due("loss(0)", x.loss(0), 1);
        due("loss(1)", x.loss(1), 3);
        due("loss(2)", x.loss(2), 0);
        due("loss(3)", x.loss(3), 5);
        due("loss(4)", x.loss(4), 0);
        due("loss(5)", x.loss(5), -2);
        due("loss(-1)", x.loss(-1), -2);
        due("loss(16)", x.loss(16), -2);
        due("nothing has changed", x.count(1), 31);
        due("accepted()", x.accepted(), 1);
        due("pair(3, 3)", x.pair(3, 3), 4);
        due("loss of all", doubling(LONGEST).loss(1), 105);
        due("loss of the pair", doubling(LONGEST).loss(0), 91);
        due("loss at no word", doubling("").loss(0), 0);
    }

    private static void forms() {
        promise = 30;
        BitRecogniser x = wound("abcbb");
        int[][] rows = {{0}, {8, 1, 10, 1}, {8, 2, 10, 1}, {8, 9, 10, 1}, {8, 9, 10, 9, 9}};
        for (int m = 0; m < rows.length; m++) {
            for (int i = 0; i < rows[m].length; i++) {
                due("form(" + m + ", " + i + ")", x.form(m, i), rows[m][i]);
            }
            due("form(" + m + ", behind)", x.form(m, rows[m].length), -1);
            due("form(" + m + ", MAX)", x.form(m, Integer.MAX_VALUE), -1);
            due("form(" + m + ", -1)", x.form(m, -1), -3);
        }
        due("form(5, 0)", x.form(5, 0), -2);
        due("form(-1, 0)", x.form(-1, 0), -2);
        due("form(5, -1)", x.form(5, -1), -2);
        due("not accepted", wound("abc").form(0, 0), -2);
        BitRecogniser y = doubling(LONGEST);
        for (int i = 0; i < 14; i++) {
            due("form(27, " + i + ")", y.form(27, i), 8);
        }
        due("form(27, 14)", y.form(27, 14), -1);
        // what stands behind the leftmost one moves on
        int[][] moved = {{0}, {1, 2, 9}, {8, 8, 8, 2, 9}, {8, 8, 8, 10, 10, 9}};
        BitRecogniser z = grammar("aaaccb", "ABCb", "Baaa", "Ccc");
        for (int m = 0; m < moved.length; m++) {
            for (int i = 0; i < moved[m].length; i++) {
                due("form(" + m + ", " + i + ") of what moves on", z.form(m, i), moved[m][i]);
            }
        }
    }

    private static void formLengths() {
        promise = 31;
        BitRecogniser x = wound("abcbb");
        int[] lengths = {1, 4, 4, 4, 5, -2};
        for (int m = 0; m < lengths.length; m++) {
            due("length(" + m + ")", x.length(m), lengths[m]);
        }
        due("length(-1)", x.length(-1), -2);
        due("length(MAX)", x.length(Integer.MAX_VALUE), -2);
        due("not accepted", wound("abc").length(0), -2);
        due("no word", wound("").length(0), -2);
        due("fourteen", doubling(LONGEST).length(27), 14);
    }

    // ---- words

    private static void begins() {
        promise = 32;
        due("doubling", doubling("aaab").beginnings(), 14);
        due("wound", wound("abcbb").beginnings(), 48);
        due("none", wound("bcb").beginnings(), 0);
        due("no word", doubling("").beginnings(), 0);
        due("fourteen", doubling(LONGEST).beginnings(), 32766);
    }

    private static void piecing() {
        promise = 33;
        BitRecogniser x = grammar("aaabaa", "Aa", "Aaa", "Ab", "Aaab");
        due("pieces(-1)", x.pieces(-1), 3);
        int[] ends = {1, 4, 6, -1};
        for (int i = 0; i < ends.length; i++) {
            due("pieces(" + i + ")", x.pieces(i), ends[i]);
        }
        due("pieces(-2)", x.pieces(-2), -3);
        due("pieces(MIN)", x.pieces(Integer.MIN_VALUE), -3);
        due("pieces(MAX)", x.pieces(Integer.MAX_VALUE), -1);
        BitRecogniser y = grammar("aaaaa", "Aa", "Aaa");
        due("of as few the least row", 100 * y.pieces(0) + 10 * y.pieces(1) + y.pieces(2), 135);
        BitRecogniser z = grammar("aac", "Aa");
        due("it doesn't", z.pieces(-1), -1);
        due("it doesn't, a piece", z.pieces(0), -1);
        due("no letters", doubling("").pieces(-1), -1);
        due("no letters, a piece", doubling("").pieces(0), -1);
        due("no letters, -3 ahead of NONE", doubling("").pieces(-2), -3);
        due("all at once", doubling(LONGEST).pieces(-1), 1);
        due("one by one", grammar(LONGEST, "Aa").pieces(-1), 14);
        due("one by one, the last", grammar(LONGEST, "Aa").pieces(13), 14);
        due("one by one, none more", grammar(LONGEST, "Aa").pieces(14), -1);
    }

    private static void turning() {
        promise = 34;
        due("bcba", wound("bcba").turned(), 1);
        due("abcb", wound("abcb").turned(), 0);
        due("bbcbba", wound("bbcbba").turned(), 1);
        due("no word", wound("").turned(), 0);
        BitRecogniser x = grammar("ab", "Aab");
        due("ab", x.turned(), 0);
        due("and the word is as it was", x.accepted(), 1);
        word(x, "ba");
        due("ba", x.turned(), 1);
    }

    private static void viables() {
        promise = 35;
        String[] good = {"", "a", "ab", "abb", "abc", "abbc", "abcb", "abbcbb"};
        for (String text : good) {
            due("viable() of " + text, wound(text).viable(), 1);
        }
        String[] bad = {"b", "aa", "abbb", "abcbbb", "ac", "d"};
        for (String text : bad) {
            due("viable() of " + text, wound(text).viable(), 0);
        }
        due("of another START", startAt(wound("b"), 1).viable(), 1);
        due("of another START, not so", startAt(wound("a"), 1).viable(), 0);
        due("of the last START", startAt(grammar("a", "Hab"), 7).viable(), 1);
        due("START without a word", grammar("a", "AaA").viable(), 0);
        due("no rules", new BitRecogniser().viable(), 0);
        due("what stands behind must end", grammar("a", "AaB", "BBB").viable(), 0);
        due("first parts first", grammar("ab", "AAc", "Aab").viable(), 1);
        due("first parts far away", grammar("aaaaaaaaaaaaab", "AAb", "AaA", "Aa").viable(), 1);
    }

    private static void nexts() {
        promise = 36;
        due("of no letters", wound("").next(), 256);
        due("behind a", wound("a").next(), 512);
        due("behind ab", wound("ab").next(), 1536);
        due("behind abb", wound("abb").next(), 1024);
        due("behind abcb", wound("abcb").next(), 512);
        due("behind abcbb", wound("abcbb").next(), 0);
        due("behind none", wound("b").next(), 0);
        due("of another START", startAt(wound(""), 1).next(), 512);
        due("of the last START", startAt(grammar("a", "Hab", "Hac"), 7).next(), 1536);
        due("a fifteenth letter", grammar(LONGEST, "AaA", "Aa", "Af").next(), 8448);
        due("what stands behind must end", grammar("a", "AaB", "BBB", "Aac").next(), 1024);
        due("all six", grammar("", "AaA", "Ab", "Ac", "Ad", "Ae", "Af").next(), 16128);
    }

    private static void lengthSets() {
        promise = 37;
        BitRecogniser x = wound("");
        due("lengths(0)", x.lengths(0), 112);
        due("lengths(1)", x.lengths(1), 6);
        due("lengths(3)", x.lengths(3), 0);
        due("lengths(13)", x.lengths(13), 2);
        due("lengths(14)", x.lengths(14), 56);
        due("lengths(15)", x.lengths(15), 12);
        due("lengths(16)", x.lengths(16), -2);
        due("lengths(-1)", x.lengths(-1), -2);
        due("all", doubling("").lengths(0), 32766);
        due("even ones", grammar("", "AAA", "Aab").lengths(0), 0x5554);
        due("behind a new rule", grammar("", "AAA", "Aabcde").lengths(0), 1 << 5 | 1 << 10);
    }

    private static void shapeCounts() {
        promise = 38;
        BitRecogniser x = wound("");
        due("shapes(0, 4)", x.shapes(0, 4), 1);
        due("shapes(0, 5)", x.shapes(0, 5), 2);
        due("shapes(0, 6)", x.shapes(0, 6), 1);
        due("shapes(0, 7)", x.shapes(0, 7), 0);
        due("shapes(3, 1)", x.shapes(3, 1), 0);
        due("two letters", grammar("", "AAA", "Aa", "Ab").shapes(0, 3), 16);
        due("fourteen", grammar("", "AAA", "Aa", "Ab").shapes(0, 14), 742900L << 14);
        due("shapes(0, 0)", x.shapes(0, 0), -3);
        due("shapes(0, 15)", x.shapes(0, 15), -3);
        due("shapes(0, -1)", x.shapes(0, -1), -3);
        due("shapes(8, 0)", x.shapes(8, 0), -2);
        due("shapes(-1, 15)", x.shapes(-1, 15), -2);
        due("shapes(8, 1)", x.shapes(8, 1), -2);
        due("too many", overgrown().shapes(0, 14), -7);
        // reckoned by Oracle, which counts without a limit
        BitRecogniser y = grammar("", "Aa", "Ba", "ABA", "AAA", "BBB", "BBA", "ABB", "Ae", "Bc", "Bf", "AB", "BA", "CAc");
        due("nearly too many", y.shapes(0, 11), 8008956909179687500L);
        due("nearly too many, times one", y.shapes(2, 12), 8008956909179687500L);
        due("one letter more", y.shapes(0, 12), -7);
        due("the word is no matter", wound("ff").shapes(0, 5), 2);
    }

    private static void changeCounts() {
        promise = 39;
        due("none to change", wound("abcb").changes(), 0);
        due("one", wound("abbb").changes(), 1);
        due("all", wound("fafa").changes(), 4);
        due("no word of that length", wound("abc").changes(), -1);
        due("no letters", wound("").changes(), -1);
        due("fourteen", doubling("bbbbbbbbbbbbbb").changes(), 14);
        due("the nearer one", grammar("bba", "Aaaa", "Abbb").changes(), 1);
        due("by units", grammar("f", "AB", "BC", "Cd").changes(), 1);
        due("by a unit that leads to A", startAt(grammar("fbf", "BA", "Aabc"), 1).changes(), 2);
    }

    private static void changedLetters() {
        promise = 40;
        BitRecogniser x = grammar("bc", "Aad", "Abd", "Aff", "Abb", "Acc");
        // bd, bb, cc are one letter off: bb is the first of them
        due("changed(0)", x.changed(0), 9);
        due("changed(1)", x.changed(1), 9);
        due("changed(2)", x.changed(2), -1);
        due("changed(MAX)", x.changed(Integer.MAX_VALUE), -1);
        due("changed(-1)", x.changed(-1), -3);
        due("changed(MIN)", x.changed(Integer.MIN_VALUE), -3);
        due("no such word", wound("abc").changed(0), -1);
        due("no such word, -3 ahead", wound("abc").changed(-1), -3);
        due("no letters", wound("").changed(0), -1);
        BitRecogniser y = grammar("ffffffffffffff", "AAA", "Af", "Ae");
        for (int i = 0; i < 14; i++) {
            due("itself", y.changed(i), 13);
        }
        BitRecogniser z = grammar("aaaaaaaaaaaaaa", "AAA", "Af", "Ae");
        for (int i = 0; i < 14; i++) {
            due("the first by letters", z.changed(i), 12);
        }
        due("changed(14)", z.changed(14), -1);
    }

    private static void wordCounts() {
        promise = 41;
        BitRecogniser x = grammar("", "AAA", "Aa", "Ab", "Ac", "Ad", "Ae", "Af");
        int[] all = {6, 36, 216, 1296};
        for (int n = 1; n <= 4; n++) {
            due("words(" + n + ")", x.words(n), all[n - 1]);
        }
        due("words(0)", x.words(0), -3);
        due("words(5)", x.words(5), -3);
        due("words(-1)", x.words(-1), -3);
        due("words(MIN)", x.words(Integer.MIN_VALUE), -3);
        due("of two ways one word", grammar("", "Aa", "AB", "Ba", "ABC", "CB", "BCB").words(2), 1);
        due("none", wound("").words(3), 0);
        due("none without a pair", grammar("", "Aa").words(2), 0);
        due("none of the second part alone", grammar("", "Cff", "Ba", "ABC").words(2), 0);
        due("none of the symbol behind START's", startAt(grammar("", "AC", "Ca", "Df"), 1).words(1), 0);
        due("one", wound("").words(4), 1);
        due("of another START", startAt(wound(""), 1).words(2), 1);
        due("along a unit that leads to A", startAt(grammar("", "BA", "Aabc", "Aabd"), 1).words(3), 2);
        due("along units", grammar("", "AB", "BC", "Cabc", "Cacb", "Cabca", "Cff").words(3), 2);
        // abee is number 64 of all words of four letters, counted from 0
        due("a word's bit that is carried on", grammar("", "ABe", "Babe").words(4), 1);
        due("by parts", grammar("", "AaBf", "Bc", "Bd", "Bef", "Bfe", "Bcc").words(4), 3);
        due("the last of all", grammar("", "Affff").words(4), 1);
        due("of no rules", new BitRecogniser().words(1), 0);
    }

    private static void firstWords() {
        promise = 42;
        BitRecogniser x = grammar("", "AaBf", "Bc", "Bd", "Bfe", "Bef", "Bcd");
        int[] four = {8, 10, 11, 13};
        for (int i = 0; i < 4; i++) {
            due("first(4, " + i + ")", x.first(4, i), four[i]);
        }
        due("first(3, 1)", x.first(3, 1), 10);
        due("first(3, 3)", x.first(3, 3), -1);
        due("first(4, 4)", x.first(4, 4), -1);
        due("first(4, MAX)", x.first(4, Integer.MAX_VALUE), -1);
        due("first(2, 0)", x.first(2, 0), -1);
        due("first(0, 0)", x.first(0, 0), -3);
        due("first(5, 0)", x.first(5, 0), -3);
        due("first(4, -1)", x.first(4, -1), -3);
        due("first(2, -1)", x.first(2, -1), -3);
        BitRecogniser y = grammar("", "Affff");
        for (int i = 0; i < 4; i++) {
            due("the last of all", y.first(4, i), 13);
        }
        due("first(1, 0)", startAt(wound(""), 2).first(1, 0), 9);
    }

    // ---- trays, back

    private static void trays() {
        promise = 43;
        BitRecogniser x = doubling("aaa");
        due("tray(3, 1)", x.tray(3, 1), -2);
        due("tray(-1, 1)", x.tray(-1, 1), -2);
        due("tray(3, 21)", x.tray(3, 21), -2);
        due("tray(0, 21)", x.tray(0, 21), -3);
        due("tray(0, -1)", x.tray(0, -1), -3);
        due("still MISSING", x.number(0, 0), -6);
        due("tray(0, 20)", x.tray(0, 20), 0);
        due("number(0, 19)", x.number(0, 19), 0);
        due("number(0, 20)", x.number(0, 20), -7);
        due("tray(1, 0)", x.tray(1, 0), 0);
        due("number(1, 0)", x.number(1, 0), -7);
        due("copy", x.copy(0, 2, 0), 3);
        due("tray(0, 21)", x.tray(0, 21), -3);
        due("the tray stays", x.number(0, 2), 257);
        due("copy", x.copy(0, 0, 1), 2);
        due("tray(0, 5)", x.tray(0, 5), 0);
        for (int i = 0; i < 5; i++) {
            due("all 0", x.number(0, i), 0);
        }
        due("number(0, 5)", x.number(0, 5), -7);
        due("the others stay", x.number(2, 0), -6);
        x.tray(1, 20);
        x.copy(1, 0, 0);
        x.copy(1, 17, 0);
        x.tray(0, 20);
        x.tray(2, 20);
        due("the next one stays", x.number(1, 0), 257);
        due("the one ahead stays", x.number(1, 19), 1);
    }

    private static void copies() {
        promise = 44;
        BitRecogniser x = doubling("aab");
        due("MISSING", x.copy(0, 0, 0), -6);
        due("copy(3, 0, 0)", x.copy(3, 0, 0), -2);
        due("copy(-1, 0, 0)", x.copy(-1, 0, 0), -2);
        due("copy(0, 0, 4)", x.copy(0, 0, 4), -2);
        due("copy(0, 0, -1)", x.copy(0, 0, -1), -2);
        x.tray(1, 5);
        due("copy(1, 3, 0)", x.copy(1, 3, 0), -7);
        due("copy(1, -1, 0)", x.copy(1, -1, 0), -7);
        due("copy(1, MAX, 0)", x.copy(1, Integer.MAX_VALUE, 0), -7);
        due("copy(1, MIN, 0)", x.copy(1, Integer.MIN_VALUE, 0), -7);
        for (int i = 0; i < 5; i++) {
            due("nothing came", x.number(1, i), 0);
        }
        due("copy(1, 2, 0)", x.copy(1, 2, 0), 3);
        due("copy(1, 0, 1)", x.copy(1, 0, 1), 2);
        long[] row = {257, 0, 257, 1, 0};
        for (int i = 0; i < 5; i++) {
            due("number(1, " + i + ")", x.number(1, i), row[i]);
        }
        due("none come", x.copy(1, 5, 3), 0);
        due("none come, too far", x.copy(1, 6, 3), -7);
        x.tray(2, 0);
        due("into none", x.copy(2, 0, 3), 0);
        due("one into none", x.copy(2, 0, 2), -7);
        due("no letters", doubledAt0().copy(0, 0, 0), 0);
        BitRecogniser y = full();
        word(y, "aadd");
        y.tray(0, 2);
        y.copy(0, 0, 2);
        due("high bits", y.number(0, 1), 1L << 61);
    }

    private static BitRecogniser doubledAt0() {
        BitRecogniser x = doubling("");
        x.tray(0, 0);
        return x;
    }

    private static void numbers() {
        promise = 45;
        BitRecogniser x = doubling("aaa");
        x.tray(2, 3);
        x.copy(2, 0, 0);
        due("number(2, 0)", x.number(2, 0), 257);
        due("number(2, 2)", x.number(2, 2), 1);
        due("number(2, 3)", x.number(2, 3), -7);
        due("number(2, -1)", x.number(2, -1), -7);
        due("number(2, MAX)", x.number(2, Integer.MAX_VALUE), -7);
        due("number(2, MIN)", x.number(2, Integer.MIN_VALUE), -7);
        due("number(3, 0)", x.number(3, 0), -2);
        due("number(-1, 0)", x.number(-1, 0), -2);
        due("number(1, -1)", x.number(1, -1), -6);
        x.drop(0);
        x.undo(2);
        due("what isn't undone", x.number(2, 0), 257);
    }

    private static void undoing() {
        promise = 46;
        BitRecogniser x = new BitRecogniser();
        due("undo(1)", x.undo(1), -3);
        rule(x, "AAA");
        rule(x, "Aa");
        word(x, "aaa");
        x.start(3);
        x.drop(0);
        rule(x, "Bb");
        due("undo(0)", x.undo(0), -3);
        due("undo(-1)", x.undo(-1), -3);
        due("undo(7)", x.undo(7), -3);
        due("undo(MAX)", x.undo(Integer.MAX_VALUE), -3);
        due("undo(1)", x.undo(1), 5);
        due("count(1)", x.count(1), 2);
        due("undo(1)", x.undo(1), 4);
        due("count(1)", x.count(1), 3);
        due("part(0, 1)", x.part(0, 1), 0);
        due("count(4)", x.count(4), 3);
        due("undo(1)", x.undo(1), 3);
        due("accepted()", x.accepted(), 1);
        due("undo(2)", x.undo(2), 1);
        due("count(5)", x.count(5), 0);
        due("count(1)", x.count(1), 1);
        refusedIsNoCall(x);
        tenAtMost();
    }

    private static void refusedIsNoCall(BitRecogniser x) {
        rule(x, "AAA");
        rule(x, "A");
        word(x, "Z");
        x.start(0);
        x.start(9);
        x.drop(7);
        x.image(0);
        x.tray(0, 3);
        due("count(6)", x.count(6), 1);
        feed(x, "ab");
        due("undo(1)", x.undo(1), 0);
        due("the tape stays", x.count(7), 20);
        due("count(0)", x.count(0), 0);
    }

    private static void tenAtMost() {
        BitRecogniser x = new BitRecogniser();
        for (int k = 0; k < 13; k++) {
            word(x, LONGEST.substring(0, k));
        }
        due("count(6)", x.count(6), 10);
        due("undo(11)", x.undo(11), -3);
        due("undo(4)", x.undo(4), 6);
        due("count(5)", x.count(5), 8);
        word(x, "abcabcabc");
        due("count(6)", x.count(6), 7);
        due("undo(7)", x.undo(7), 0);
        due("count(5)", x.count(5), 2);
        due("undo(1)", x.undo(1), -3);
        for (int ahead = 0; ahead < 12; ahead++) {
            undoOneByOne(ahead);
        }
    }

    private static void undoOneByOne(int ahead) {
        BitRecogniser x = new BitRecogniser();
        for (int k = 0; k < ahead; k++) {
            word(x, "f");
        }
        for (int k = 0; k <= 12; k++) {
            word(x, LONGEST.substring(0, k));
        }
        for (int k = 9; k >= 0; k--) {
            due("undo(1)", x.undo(1), k);
            due("count(5)", x.count(5), k + 2);
        }
        due("undo(1)", x.undo(1), -3);
    }

    private static void images() {
        promise = 47;
        BitRecogniser x = doubling("aaa");
        due("image(2)", x.image(2), -2);
        due("image(-1)", x.image(-1), -2);
        due("image(0)", x.image(0), 0);
        due("none made at 1", x.restore(1), -6);
        x.drop(0);
        due("image(0) in its place", x.image(0), 0);
        due("count(6)", x.count(6), 4);
        x.drop(1);
        due("restore(0)", x.restore(0), 0);
        due("count(1)", x.count(1), 2);
    }

    private static void restoring() {
        promise = 48;
        BitRecogniser x = doubling("aaa");
        due("restore(2)", x.restore(2), -2);
        due("restore(-1)", x.restore(-1), -2);
        due("restore(0)", x.restore(0), -6);
        x.image(0);
        x.start(5);
        x.drop(0);
        rule(x, "Fab");
        word(x, "ab");
        x.image(1);
        x.tray(0, 3);
        x.copy(0, 0, 0);
        feed(x, "Zz");
        due("accepted()", x.accepted(), 1);
        due("restore(0)", x.restore(0), 0);
        due("count(6)", x.count(6), 0);
        due("undo(1)", x.undo(1), -3);
        due("count(4)", x.count(4), 0);
        due("count(5)", x.count(5), 3);
        due("trees(0, 0, 3)", x.trees(0, 0, 3), 2);
        due("the tape stays", x.count(7), 20);
        due("the tray stays", x.number(0, 0), 257);
        due("restore(1)", x.restore(1), 0);
        due("count(4)", x.count(4), 5);
        due("accepted()", x.accepted(), 1);
        due("restore(0) again", x.restore(0), 0);
        due("accepted()", x.accepted(), 1);
        due("trees(0, 0, 3)", x.trees(0, 0, 3), 2);
        x.drop(0);
        due("count(6)", x.count(6), 1);
        due("undo(1)", x.undo(1), 0);
        due("an image isn't changed", x.restore(0), 0);
        due("count(1)", x.count(1), 3);
    }

    private static void counts() {
        promise = 49;
        BitRecogniser x = wound("abcb");
        x.start(6);
        x.drop(2);
        feed(x, "");
        int[] counts = {4, 27, 2, 2, 6, 4, 8, 20};
        for (int what = 0; what < counts.length; what++) {
            due("count(" + what + ")", x.count(what), counts[what]);
        }
        due("count(8)", x.count(8), -1);
        due("count(-1)", x.count(-1), -1);
        due("count(MIN)", x.count(Integer.MIN_VALUE), -1);
        due("count(3)", full().count(3), 48);
        due("count(1)", full().count(1), 65535);
    }

    public static void main(String[] args) {
        newObject();
        feeding();
        telling();
        wording();
        faults();
        dropping();
        starting();
        parts();
        pairCounts();
        pairRows();
        wayBack();
        unitSets();
        unitRounds();
        leastLengths();
        reaching();
        cells();
        accepting();
        oneRound();
        lastRound();
        products();
        cutCounts();
        rows();
        spanCounts();
        treeCounts();
        doubts();
        nodeCounts();
        nodeRows();
        treeRows();
        losses();
        forms();
        formLengths();
        begins();
        piecing();
        turning();
        viables();
        nexts();
        lengthSets();
        shapeCounts();
        changeCounts();
        changedLetters();
        wordCounts();
        firstWords();
        trays();
        copies();
        numbers();
        undoing();
        images();
        restoring();
        counts();
        System.out.println("PromiseTest: " + asked + " answers, " + wrong + " wrong");
        if (wrong != 0) {
            System.exit(1);
        }
    }
}

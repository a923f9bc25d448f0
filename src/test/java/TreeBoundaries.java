/** Boundary cases of promises 24 to 31: trees. */
final class TreeBoundaries extends Boundaries {
    /** Eight SYMBOLS over each SPAN, along UNITS from A to H. */
    private static BitRecogniser tall(String word) {
        return grammar(word, "AB", "BC", "CD", "DE", "EF", "FG", "GH", "Ha", "HHH");
    }

    // ---- Promise 24: trees

    @Sentence(promise = 24, words = "How many TREES one of 0 to 7 has over a SPAN.")
    static void noneOneTwoAndMoreTrees() {
        BitRecogniser x = doubling(LONGEST);
        due("trees(0, 0, 1)", x.trees(0, 0, 1), 1);
        due("trees(0, 0, 2)", x.trees(0, 0, 2), 1);
        due("trees(0, 0, 3)", x.trees(0, 0, 3), 2);
        due("trees(0, 11, 14)", x.trees(0, 11, 14), 2);
        due("trees(0, 0, 14)", x.trees(0, 0, 14), 742900);
        due("trees(7, 0, 14) of no RULE", x.trees(7, 0, 14), 0);
        due("trees(7, 13, 14) of the last SYMBOL", tall(LONGEST).trees(7, 13, 14), 1);
    }

    @Sentence(promise = 24, words = "-2: the SYMBOL, the SPAN")
    static void treesOfNoSymbolOrSpan() {
        bounds(NO_SUCH, "trees, x", 0, 7, Boundaries::busy, (x, symbol) -> x.trees(symbol, 0, 4));
        each(NO_SUCH, "trees, x", new int[] {8, 13, 14, 61, 62}, Boundaries::crammed, (x, symbol) -> x.trees(symbol, 0, 1));
        SpanBoundaries.spanBounds("trees", Boundaries::busy, (x, i, j) -> x.trees(0, i, j));
        SpanBoundaries.noSpans("trees", (x, i, j) -> x.trees(0, i, j));
    }

    @Sentence(promise = 24, words = "-7: above 9,223,372,036,854,775,807.")
    static void moreTreesThanALongHolds() {
        for (int symbol = 0; symbol < 3; symbol++) {
            int x = symbol;
            answers(NO_ROOM, "trees(" + x + ", 0, 14)", Sample::overgrown, y -> y.trees(x, 0, 14));
        }
        due("trees(3, 0, 14) beside it", overgrown().trees(3, 0, 14), 0);
        due("trees(2, 0, 1), which are few", overgrown().trees(2, 0, 1), 5);
    }

    @Sentence(promise = 24, words = "-7: above 9,223,372,036,854,775,807.")
    static void asManyTreesAsALongHoldsAndOneMore() {
        due("trees(7, 0, 14) of the greatest long", greatest().trees(7, 0, 14), Long.MAX_VALUE);
        answers(NO_ROOM, "trees(7, 0, 14) of one more", Sample::oneTooMany, x -> x.trees(7, 0, 14));
    }

    // ---- Promise 25: doubtful

    @Sentence(promise = 25, words = "Of SPANS over which one of A to H has two TREES or more")
    static void doubtfulOfOneTreeAndOfTwo() {
        answers(NONE, "doubtful(0) of one TREE", () -> doubling("aa"), x -> x.doubtful(0));
        due("doubtful(2) of two", doubling("aaa").doubtful(2), 3);
        due("doubtful(0) of a SYMBOL that isn't START", startAt(doubling("aaa"), 5).doubtful(0), 0);
        // a HELPER has two ways, but over no SPAN one of A to H
        answers(NONE, "doubtful(0) of a HELPER", () -> grammar("aaa", "BfCC", "Ca", "Caa"), x -> x.doubtful(0));
    }

    @Sentence(promise = 25, words = "the shortest (of like ones that of the least beginning, then the least SYMBOL)")
    static void firstOfTheDoubtfulSpans() {
        // E twice over each a: by C and by D; F too
        String[] rules = {"Ca", "Da", "EC", "ED", "FC", "FD", "AEE", "Ab"};
        checkDoubt(grammar("baab", rules), 4, 1, 2);
        checkDoubt(grammar("bbba", rules), 4, 3, 4);
        checkDoubt(grammar("abbb", rules), 4, 0, 1);
        // a longer one begins ahead of a shorter one
        checkDoubt(grammar("bbbfa", "ABBB", "ABC", "AEB", "Bb", "Cbb", "Ebb", "Fa", "GF", "Ga"), 6, 4, 5);
        checkDoubt(doubling("baaa"), 0, 1, 4);
        checkDoubt(grammar("a", "HA", "HB", "Aa", "Ba"), 7, 0, 1);
    }

    private static void checkDoubt(BitRecogniser x, int symbol, int from, int to) {
        due("doubtful(0)", x.doubtful(0), symbol);
        due("doubtful(1)", x.doubtful(1), from);
        due("doubtful(2)", x.doubtful(2), to);
    }

    @Sentence(promise = 25, words = "NONE: there is none")
    static void noDoubt() {
        for (int what = 0; what <= 2; what++) {
            int which = what;
            answers(NONE, "doubtful(" + which + ") of a new object", BitRecogniser::new, x -> x.doubtful(which));
            answers(NONE, "doubtful(" + which + ")", Boundaries::busy, x -> x.doubtful(which));
            answers(NONE, "doubtful(" + which + ")", Boundaries::crammed, x -> x.doubtful(which));
        }
    }

    @Sentence(promise = 25, words = "-2: what;")
    static void doubtfulOfOthers() {
        bounds(NO_SUCH, "doubtful, what", 0, 2, Boundaries::busy, BitRecogniser::doubtful);
        bounds(NO_SUCH, "doubtful of a new object, what", 0, 2, BitRecogniser::new, BitRecogniser::doubtful);
        bounds(NO_SUCH, "doubtful of two TREES, what", 0, 2, () -> doubling("aaa"), BitRecogniser::doubtful);
    }

    @Sentence(promise = 25, words = "-7: some has too many to tell (as by trees()).")
    static void doubtfulWhereSomeHasTooMany() {
        for (int what = 0; what <= 2; what++) {
            int which = what;
            answers(NO_ROOM, "doubtful(" + which + ")", Sample::overgrown, x -> x.doubtful(which));
            answers(NO_ROOM, "doubtful(" + which + ") of another START", () -> startAt(overgrown(), 7), x -> x.doubtful(which));
        }
    }

    // ---- Promise 26: nodes

    @Sentence(promise = 26, words = "NODES of THE FIRST TREE of START over THE WORD")
    static void fewestAndMostNodes() {
        due("nodes() of one", doubling("a").nodes(), 1);
        due("nodes() of 27 SPANS", doubling(LONGEST).nodes(), 27);
        due("nodes() of 27 SPANS and seven UNITS above", tall(LONGEST).nodes(), 34);
        due("nodes() of 27 SPANS with eight each", grammar(LONGEST, "AB", "BC", "CD", "DE", "EF", "FG", "GH", "Ha", "HAA").nodes(), 216);
        due("nodes() of too many TREES", overgrown().nodes(), 27);
    }

    @Sentence(promise = 26, words = "(0: it isn't ACCEPTED).")
    static void nodesOfWhatIsNotAccepted() {
        due("nodes() of a new object", new BitRecogniser().nodes(), 0);
        due("nodes() of no LETTERS", doubling("").nodes(), 0);
        due("nodes() of another WORD", doubling("aab").nodes(), 0);
        due("nodes() of another START", startAt(doubling("aa"), 1).nodes(), 0);
    }

    // ---- Promise 27: node

    @Sentence(promise = 27, words = "3: the NODE above it (NONE), 4: how many are above it.")
    static void firstNodeHasNoneAbove() {
        answers(NONE, "node(0, 3)", Boundaries::busy, x -> x.node(0, 3));
        due("node(0, 4)", busy().node(0, 4), 0);
        BitRecogniser x = grammar(LONGEST, "AB", "BC", "CD", "DE", "EF", "FG", "GH", "Ha", "HAA");
        due("node(215, 3), the last one", x.node(215, 3), 214);
        due("node(215, 4), the last one", x.node(215, 4), 8 * 14 - 1);
        due("node(215, 1), the last one", x.node(215, 1), 13);
        due("node(215, 2), the last one", x.node(215, 2), 14);
    }

    @Sentence(promise = 27, words = "-2.")
    static void nodeThatIsNotThere() {
        bounds(NO_SUCH, "node, k", 0, 4, Boundaries::busy, (x, k) -> x.node(k, 0));
        bounds(NO_SUCH, "node, what", 0, 4, Boundaries::busy, (x, what) -> x.node(4, what));
        bounds(NO_SUCH, "node of one, k", 0, 0, () -> doubling("a"), (x, k) -> x.node(k, 4));
        each(NO_SUCH, "node of what isn't ACCEPTED, k", new int[] {-1, 0, 1}, Boundaries::crammed, (x, k) -> x.node(k, 0));
        each(NO_SUCH, "node of no LETTERS, k", new int[] {-1, 0, 1}, () -> doubling(""), (x, k) -> x.node(k, 0));
        each(NO_SUCH, "node of too many TREES, k", new int[] {-1, 27, GREATEST_INT}, Sample::overgrown, (x, k) -> x.node(k, 0));
    }

    // ---- Promise 28: tree

    @Sentence(promise = 28, words = "numbered from 0 (THE FIRST)")
    static void treeZeroIsTheFirstTree() {
        BitRecogniser x = doubling("aaaaa");
        due("tree(0, NONE, 0)", x.tree(0, NONE, 0), x.nodes());
        for (int k = 0; k < 9; k++) {
            for (int what = 0; what < 5; what++) {
                due("tree(0, " + k + ", " + what + ")", x.tree(0, k, what), x.node(k, what));
            }
        }
        due("tree(13, 1, 2), the last CUT of the last one", x.tree(13, 1, 2), 4);
        due("tree(13, 8, 1)", x.tree(13, 8, 1), 4);
    }

    @Sentence(promise = 28, words = "of TREE m, k NONE: how many NODES, else of NODE k, what as for node().")
    static void nodesOfATree() {
        answers(NONE, "tree(4, 0, 3), which has none above", () -> doubling("aaaa"), x -> x.tree(4, 0, 3));
        for (int what = 0; what < 5; what++) {
            due("tree(4, NONE, " + what + ")", doubling("aaaa").tree(4, NONE, what), 7);
        }
    }

    @Sentence(promise = 28, words = "-7: they are too many to tell;")
    static void treeOfTooMany() {
        each(NO_ROOM, "tree, m", new int[] {-1, 0, 1, LEAST_INT, GREATEST_INT}, Sample::overgrown, (x, m) -> x.tree(m, NONE, 0));
        each(NO_ROOM, "tree of one too many, m", new int[] {-1, 0, GREATEST_INT}, Sample::oneTooMany, (x, m) -> x.tree(m, 0, 0));
        letIn("tree of as many as a long holds, m 0", greatest().tree(0, NONE, 0));
        letIn("tree of as many as a long holds, the greatest m", greatest().tree(GREATEST_INT, NONE, 0));
        each(NO_NUMBER, "tree of as many as a long holds, m", new int[] {-1, LEAST_INT}, Sample::greatest, (x, m) -> x.tree(m, 0, 0));
        // those of START over the whole WORD are counted alone
        BitRecogniser x = grammarBesideTooMany();
        due("trees(0, 0, 14)", x.trees(0, 0, 14), NO_ROOM);
        due("tree(0, NONE, 0) of another START", x.tree(0, NONE, 0), 4);
    }

    /** D over fourteen letters has one tree, A has too many. */
    private static BitRecogniser grammarBesideTooMany() {
        BitRecogniser x = grammar(LONGEST, "Aa", "Ba", "AAA", "AAB", "ABA", "ABB", "BAA", "BAB", "BBA", "BBB", "AB", "BA", "Daaaaa", "Eaaaa");
        rule(x, "FEaaaa");
        rule(x, "DFEaa");
        return startAt(x, 3);
    }

    @Sentence(promise = 28, words = "-3: m is below 0, not below how many there are;")
    static void treeOfNoSuchNumber() {
        bounds(NO_NUMBER, "tree of five, m", 0, 4, () -> doubling("aaaa"), (x, m) -> x.tree(m, NONE, 0));
        bounds(NO_NUMBER, "tree of one, m", 0, 0, () -> doubling("a"), (x, m) -> x.tree(m, 0, 0));
        each(NO_NUMBER, "tree of none, m", new int[] {-1, 0, 1, GREATEST_INT}, Boundaries::crammed, (x, m) -> x.tree(m, NONE, 0));
        each(NO_NUMBER, "tree of no LETTERS, m", new int[] {-1, 0, 1}, () -> doubling(""), (x, m) -> x.tree(m, NONE, 0));
    }

    @Sentence(promise = 28, words = "-2: k, what (0 to 4, also with k NONE).")
    static void treeOfNoSuchNode() {
        bounds(NO_SUCH, "tree, k", NONE, 6, () -> doubling("aaaa"), (x, k) -> x.tree(4, k, 0));
        bounds(NO_SUCH, "tree, what", 0, 4, () -> doubling("aaaa"), (x, what) -> x.tree(4, 6, what));
        bounds(NO_SUCH, "tree of k NONE, what", 0, 4, () -> doubling("aaaa"), (x, what) -> x.tree(4, NONE, what));
        bounds(NO_SUCH, "tree of one NODE, k", NONE, 0, () -> doubling("a"), (x, k) -> x.tree(0, k, 4));
    }

    // ---- Promise 29: loss

    @Sentence(promise = 29, words = "How many of A to H and a SPAN (both) DERIVE that would not without a RULE.")
    static void leastAndGreatestLoss() {
        due("loss(0) at no LETTERS", doubling("").loss(0), 0);
        due("loss(15) of a RULE that nothing needs", crammed().loss(15), 1);
        due("loss(7) of all eight over all 105", tall(LONGEST).loss(7), 840);
        due("loss(8) of all but the LETTERS", tall(LONGEST).loss(8), 8 * 91);
        due("loss(0) of A alone", tall(LONGEST).loss(0), 105);
        // LETTERS and HELPERS aren't A to H
        due("loss(0) of a RULE with HELPERS", grammar("abcb", "Dabcb").loss(0), 1);
        due("loss(0) of a RULE for one alike", grammar("aa", "AB", "AC", "Ba", "Ca").loss(0), 0);
    }

    @Sentence(promise = 29, words = "-2.")
    static void lossOfWhatIsNoRule() {
        bounds(NO_SUCH, "loss, r", 0, 15, Boundaries::crammed, BitRecogniser::loss);
        each(NO_SUCH, "loss, r", new int[] {2, 7, 15}, Boundaries::busy, BitRecogniser::loss);
        each(NO_SUCH, "loss of no RULES, r", new int[] {-1, 0, 15, 16}, BitRecogniser::new, BitRecogniser::loss);
    }

    // ---- Promise 30: form

    @Sentence(promise = 30, words = "SYMBOL i of FORM m (0 to how many NODES there are).")
    static void firstAndLastForm() {
        BitRecogniser x = busy();
        due("form(0, 0)", x.form(0, 0), 0);
        int[] last = {8, 9, 10, 9};
        for (int i = 0; i < 4; i++) {
            due("form(5, " + i + ")", x.form(5, i), last[i]);
        }
        BitRecogniser y = grammar(LONGEST, "AB", "BC", "CD", "DE", "EF", "FG", "GH", "Ha", "HAA");
        due("form(216, 13)", y.form(216, 13), 8);
        due("form(215, 13)", y.form(215, 13), 7);
        due("form(0, 0) of too many TREES", overgrown().form(0, 0), 0);
    }

    @Sentence(promise = 30, words = "NONE: it hasn't so many")
    static void formBehindItsLastSymbol() {
        each(NONE, "form 0, i", new int[] {1, 14, GREATEST_INT}, Boundaries::busy, (x, i) -> x.form(0, i));
        each(NONE, "form 5, i", new int[] {4, 5, GREATEST_INT}, Boundaries::busy, (x, i) -> x.form(5, i));
        each(NONE, "form of fourteen, i", new int[] {14, 15, GREATEST_INT}, () -> doubling(LONGEST), (x, i) -> x.form(27, i));
    }

    @Sentence(promise = 30, words = "-2: no such FORM, THE WORD isn't ACCEPTED")
    static void formThatIsNotThere() {
        bounds(NO_SUCH, "form, m", 0, 5, Boundaries::busy, (x, m) -> x.form(m, 0));
        bounds(NO_SUCH, "form of one NODE, m", 0, 1, () -> doubling("a"), (x, m) -> x.form(m, 0));
        each(NO_SUCH, "form of what isn't ACCEPTED, m", new int[] {-1, 0, 1, GREATEST_INT}, Boundaries::crammed, (x, m) -> x.form(m, 0));
        each(NO_SUCH, "form of no LETTERS, m", new int[] {-1, 0, 1}, () -> doubling(""), (x, m) -> x.form(m, 0));
    }

    @Sentence(promise = 30, words = "-3: i is below 0.")
    static void formBelowItsFirstSymbol() {
        each(NO_NUMBER, "form 0, i", new int[] {-1, LEAST_INT}, Boundaries::busy, (x, i) -> x.form(0, i));
        each(NO_NUMBER, "form 5, i", new int[] {-1, -2, LEAST_INT}, Boundaries::busy, (x, i) -> x.form(5, i));
    }

    // ---- Promise 31: length

    @Sentence(promise = 31, words = "How many SYMBOLS FORM m has.")
    static void shortestAndLongestForm() {
        due("length(0)", doubling(LONGEST).length(0), 1);
        due("length(27)", doubling(LONGEST).length(27), 14);
        due("length(0) of one NODE", doubling("a").length(0), 1);
        due("length(1) of one NODE", doubling("a").length(1), 1);
        due("length(1) of five PARTS", grammar("abcde", "Aabcde").length(1), 5);
    }

    @Sentence(promise = 31, words = "-2.")
    static void lengthOfAFormThatIsNotThere() {
        bounds(NO_SUCH, "length, m", 0, 5, Boundaries::busy, BitRecogniser::length);
        bounds(NO_SUCH, "length of 27 NODES, m", 0, 27, () -> doubling(LONGEST), BitRecogniser::length);
        each(NO_SUCH, "length of what isn't ACCEPTED, m", new int[] {-1, 0, 1}, Boundaries::crammed, BitRecogniser::length);
        each(NO_SUCH, "length of no LETTERS, m", new int[] {-1, 0, 1}, () -> doubling(""), BitRecogniser::length);
    }
}

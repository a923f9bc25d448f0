/** Boundary cases of promises 16 to 23: spans. */
final class SpanBoundaries extends Boundaries {
    interface SpanAsker {
        long ask(BitRecogniser x, int i, int j);
    }

    /** A call of a SPAN: those at both ends of a word are let in, those beyond it or without a LETTER are none. */
    static void spanBounds(String call, Maker maker, SpanAsker asker) {
        int letters = maker.make().count(5);
        letIn(call + " of the first LETTER", asker.ask(maker.make(), 0, 1));
        letIn(call + " of the last LETTER", asker.ask(maker.make(), letters - 1, letters));
        letIn(call + " of the whole WORD", asker.ask(maker.make(), 0, letters));
        int[][] none = {{-1, 1}, {-1, 0}, {0, 0}, {1, 0}, {letters, letters}, {letters, letters + 1}, {letters - 1, letters + 1},
            {0, letters + 1}, {letters, 0}, {0, -1}, {LEAST_INT, 1}, {0, GREATEST_INT}, {LEAST_INT, GREATEST_INT}, {GREATEST_INT, LEAST_INT},
            {0, LEAST_INT}, {GREATEST_INT, letters}, {GREATEST_INT, GREATEST_INT}, {LEAST_INT, LEAST_INT}};
        for (int[] span : none) {
            answers(NO_SUCH, call + " from " + span[0] + " to " + span[1], maker, x -> asker.ask(x, span[0], span[1]));
        }
    }

    static void noSpans(String call, SpanAsker asker) {
        int[][] spans = {{0, 0}, {0, 1}, {-1, 0}, {13, 14}};
        for (int[] span : spans) {
            answers(NO_SUCH, call + " of no WORD from " + span[0] + " to " + span[1], () -> doubling(""), x -> asker.ask(x, span[0], span[1]));
        }
    }

    // ---- Promise 16: cell

    @Sentence(promise = 16, words = "SYMBOLS that DERIVE a SPAN, as bits.")
    static void cellsOfTheShortestAndTheLongestSpan() {
        BitRecogniser x = doubling(LONGEST);
        due("cell(0, 1)", x.cell(0, 1), 0x101);
        due("cell(13, 14)", x.cell(13, 14), 0x101);
        due("cell(0, 14)", x.cell(0, 14), 1);
        BitRecogniser y = grammar("f", "AB", "BC", "CD", "DE", "EF", "FG", "GH", "Hf");
        due("cell of all eight and a LETTER", y.cell(0, 1), 0x20FF);
        due("cell of none but the LETTER", grammar("a").cell(0, 1), 0x100);
        due("cell of none", grammar("ab").cell(0, 2), 0);
    }

    @Sentence(promise = 16, words = "(HELPERS, too, as many as there are now.)")
    static void cellsOfHelpers() {
        BitRecogniser x = crammed();
        // "aaadd" from 0 on: the last HELPER is of RULE 15, d d
        due("cell(3, 5)", x.cell(3, 5), 1L << 61);
        x.drop(14);
        due("cell(3, 5) with three HELPERS less", x.cell(3, 5), 1L << 58);
        x.undo(1);
        due("cell(3, 5) again", x.cell(3, 5), 1L << 61);
        x.drop(15);
        due("cell(3, 5) without that RULE", x.cell(3, 5), 0);
    }

    @Sentence(promise = 16, words = "-2: no such SPAN.")
    static void cellOfNoSpan() {
        spanBounds("cell", Boundaries::busy, BitRecogniser::cell);
        spanBounds("cell", Boundaries::crammed, BitRecogniser::cell);
        noSpans("cell", BitRecogniser::cell);
    }

    // ---- Promise 17: accepted

    @Sentence(promise = 17, words = "1, if THE WORD is ACCEPTED, else 0.")
    static void acceptedOfNoneOneAndFourteenLetters() {
        due("accepted() of no LETTERS", doubling("").accepted(), 0);
        due("accepted() of one", doubling("a").accepted(), 1);
        due("accepted() of fourteen", doubling(LONGEST).accepted(), 1);
        due("accepted() of fourteen, one of them another", doubling("aaaaaaaaaaaaab").accepted(), 0);
        due("accepted() of another START", startAt(doubling("a"), 7).accepted(), 0);
        due("accepted() of no RULES", grammar("a").accepted(), 0);
        due("accepted() of START in eight steps", grammar("f", "AB", "BC", "CD", "DE", "EF", "FG", "GH", "Hf").accepted(), 1);
    }

    // ---- Promise 18: round

    @Sentence(promise = 18, words = "THE ROUND.")
    static void leastAndGreatestRound() {
        BitRecogniser x = grammar(LONGEST, "AaA", "Aa");
        due("round(0, 13, 14)", x.round(0, 13, 14), 0);
        due("round(0, 0, 14)", x.round(0, 0, 14), 13);
        due("round(8, 13, 14), a LETTER", x.round(8, 13, 14), 0);
        BitRecogniser y = grammar("f", "AB", "BC", "CD", "DE", "EF", "FG", "GH", "Hf");
        due("round(0, 0, 1) of eight steps", y.round(0, 0, 1), 0);
    }

    @Sentence(promise = 18, words = "NONE: it doesn't DERIVE it")
    static void roundOfWhatItDoesNotDerive() {
        answers(NONE, "round(0, 0, 3)", Boundaries::busy, x -> x.round(0, 0, 3));
        answers(NONE, "round(13, 0, 1), another LETTER", Boundaries::busy, x -> x.round(13, 0, 1));
        answers(NONE, "round(61, 0, 14), the last HELPER", Boundaries::crammed, x -> x.round(61, 0, 14));
        answers(NONE, "round(7, 0, 1) of no RULES", () -> grammar("a"), x -> x.round(7, 0, 1));
    }

    @Sentence(promise = 18, words = "-2: no such SYMBOL, SPAN.")
    static void roundOfNoSymbolOrSpan() {
        bounds(NO_SUCH, "round, x", 0, 16, Boundaries::busy, (x, symbol) -> x.round(symbol, 0, 4));
        bounds(NO_SUCH, "round, x", 0, 61, Boundaries::crammed, (x, symbol) -> x.round(symbol, 3, 5));
        bounds(NO_SUCH, "round, x", 0, 13, () -> grammar("a"), (x, symbol) -> x.round(symbol, 0, 1));
        spanBounds("round", Boundaries::busy, (x, i, j) -> x.round(16, i, j));
        noSpans("round", (x, i, j) -> x.round(0, i, j));
    }

    // ---- Promise 19: last

    @Sentence(promise = 19, words = "Of all SYMBOLS and SPANS that DERIVE the greatest ROUND.")
    static void leastAndGreatestLastRound() {
        due("last() of LETTERS alone", grammar(LONGEST).last(), 0);
        due("last() of UNITS alone", grammar("a", "AB", "Ba").last(), 0);
        due("last() of fourteen one by one", grammar(LONGEST, "AaA", "Aa").last(), 13);
        // b c d is the first HELPER of B, which itself isn't there
        due("last() of a HELPER", grammar("fbcd", "Babcd").last(), 2);
        due("last() where no HELPER is there", grammar("fabc", "Babcd").last(), 0);
    }

    @Sentence(promise = 19, words = "NONE: none does.")
    static void lastRoundWithoutLetters() {
        answers(NONE, "last() of a new object", BitRecogniser::new, BitRecogniser::last);
        answers(NONE, "last() of no LETTERS", () -> doubling(""), BitRecogniser::last);
    }

    // ---- Promise 20: product

    @Sentence(promise = 20, words = "x, y DERIVE the two parts of the SPAN from i to j for some CUT, as bits.")
    static void productFromTheFirstToTheLastPlace() {
        BitRecogniser x = doubling(LONGEST);
        due("product(0, 0, 0)", x.product(0, 0, 0), 0x7FFC);
        due("product(0, 0, 12)", x.product(0, 0, 12), 1 << 14);
        due("product(0, 0, 13)", x.product(0, 0, 13), 0);
        due("product(0, 0, 14)", x.product(0, 0, 14), 0);
        due("product(0, 0, 0) of no LETTERS", doubling("").product(0, 0, 0), 0);
        due("product(0, 0, 0) of one LETTER", doubling("a").product(0, 0, 0), 0);
    }

    @Sentence(promise = 20, words = "-2: a SYMBOL, i (0 to the length of THE WORD).")
    static void productOfNoSymbolOrPlace() {
        bounds(NO_SUCH, "product, x", 0, 16, Boundaries::busy, (x, symbol) -> x.product(symbol, 0, 0));
        bounds(NO_SUCH, "product, y", 0, 16, Boundaries::busy, (x, symbol) -> x.product(0, symbol, 0));
        bounds(NO_SUCH, "product, x", 0, 61, Boundaries::crammed, (x, symbol) -> x.product(symbol, 61, 14));
        bounds(NO_SUCH, "product, y", 0, 61, Boundaries::crammed, (x, symbol) -> x.product(61, symbol, 0));
        bounds(NO_SUCH, "product, i", 0, 4, Boundaries::busy, (x, i) -> x.product(8, 14, i));
        bounds(NO_SUCH, "product, i", 0, 14, Boundaries::crammed, (x, i) -> x.product(8, 8, i));
        bounds(NO_SUCH, "product of a new object, i", 0, 0, BitRecogniser::new, (x, i) -> x.product(13, 13, i));
    }

    // ---- Promise 21: cuts

    @Sentence(promise = 21, words = "For how many CUTS of a SPAN they do.")
    static void fewestAndMostCuts() {
        BitRecogniser x = doubling(LONGEST);
        due("cuts(0, 0, 0, 14)", x.cuts(0, 0, 0, 14), 13);
        due("cuts(0, 0, 0, 2)", x.cuts(0, 0, 0, 2), 1);
        due("cuts(0, 0, 13, 14), which has none", x.cuts(0, 0, 13, 14), 0);
        due("cuts(8, 0, 0, 14), the first CUT", x.cuts(8, 0, 0, 14), 1);
        due("cuts(0, 8, 0, 14), the last CUT", x.cuts(0, 8, 0, 14), 1);
    }

    @Sentence(promise = 21, words = "-2: a SYMBOL, the SPAN.")
    static void cutsOfNoSymbolOrSpan() {
        bounds(NO_SUCH, "cuts, x", 0, 16, Boundaries::busy, (x, symbol) -> x.cuts(symbol, 0, 0, 4));
        bounds(NO_SUCH, "cuts, y", 0, 16, Boundaries::busy, (x, symbol) -> x.cuts(0, symbol, 0, 4));
        bounds(NO_SUCH, "cuts, x", 0, 61, Boundaries::crammed, (x, symbol) -> x.cuts(symbol, 0, 13, 14));
        bounds(NO_SUCH, "cuts, y", 0, 61, Boundaries::crammed, (x, symbol) -> x.cuts(0, symbol, 13, 14));
        spanBounds("cuts", Boundaries::busy, (x, i, j) -> x.cuts(16, 16, i, j));
        noSpans("cuts", (x, i, j) -> x.cuts(0, 8, i, j));
    }

    // ---- Promise 22: row

    @Sentence(promise = 22, words = "Places j such that a SYMBOL DERIVES the SPAN from i to j, as bits.")
    static void rowFromTheFirstToTheLastPlace() {
        BitRecogniser x = doubling(LONGEST);
        due("row(0, 0)", x.row(0, 0), 0x7FFE);
        due("row(0, 13)", x.row(0, 13), 1 << 14);
        due("row(0, 14)", x.row(0, 14), 0);
        due("row(0, 0) of no LETTERS", doubling("").row(0, 0), 0);
        due("row(8, 13), a LETTER", x.row(8, 13), 1 << 14);
        due("row(61, 3), the last HELPER", crammed().row(61, 3), 1 << 5);
    }

    @Sentence(promise = 22, words = "-2: the SYMBOL, i (0 to the length of THE WORD).")
    static void rowOfNoSymbolOrPlace() {
        bounds(NO_SUCH, "row, x", 0, 16, Boundaries::busy, (x, symbol) -> x.row(symbol, 4));
        bounds(NO_SUCH, "row, x", 0, 61, Boundaries::crammed, (x, symbol) -> x.row(symbol, 0));
        bounds(NO_SUCH, "row, i", 0, 4, Boundaries::busy, (x, i) -> x.row(16, i));
        bounds(NO_SUCH, "row, i", 0, 14, Boundaries::crammed, (x, i) -> x.row(61, i));
        bounds(NO_SUCH, "row of a new object, i", 0, 0, BitRecogniser::new, (x, i) -> x.row(13, i));
    }

    // ---- Promise 23: spans

    @Sentence(promise = 23, words = "How many SPANS a SYMBOL DERIVES, what 0")
    static void fewestAndMostSpans() {
        due("spans(0, 0) of all", doubling(LONGEST).spans(0, 0), 105);
        due("spans(0, 0) of none", grammar(LONGEST).spans(0, 0), 0);
        due("spans(0, 0) of no LETTERS", doubling("").spans(0, 0), 0);
        due("spans(8, 0), a LETTER", grammar(LONGEST).spans(8, 0), 14);
        due("spans(61, 0), the last HELPER", crammed().spans(61, 0), 1);
    }

    @Sentence(promise = 23, words = "1: how long the longest is (0: none)")
    static void longestSpan() {
        due("spans(0, 1) of the whole WORD", doubling(LONGEST).spans(0, 1), 14);
        due("spans(0, 1) of none", grammar(LONGEST).spans(0, 1), 0);
        due("spans(0, 1) of no LETTERS", doubling("").spans(0, 1), 0);
        due("spans(0, 1) of the last LETTER alone", doubling("bbba").spans(0, 1), 1);
        due("spans(9, 1), a LETTER", doubling("bbba").spans(9, 1), 1);
    }

    @Sentence(promise = 23, words = "2: where the first of these begins (NONE).")
    static void beginningOfTheFirstOfTheLongest() {
        answers(NONE, "spans(0, 2) of none", () -> grammar(LONGEST), x -> x.spans(0, 2));
        answers(NONE, "spans(0, 2) of no LETTERS", () -> doubling(""), x -> x.spans(0, 2));
        due("spans(0, 2) of the whole WORD", doubling(LONGEST).spans(0, 2), 0);
        due("spans(0, 2) of the last LETTER alone", doubling("bbba").spans(0, 2), 3);
        due("spans(0, 2), the first of two", doubling("baabaab").spans(0, 2), 1);
        due("spans(0, 2), the longest behind a shorter one", doubling("abaab").spans(0, 2), 2);
    }

    @Sentence(promise = 23, words = "-2.")
    static void spansOfNoSymbolOrWhat() {
        bounds(NO_SUCH, "spans, x", 0, 16, Boundaries::busy, (x, symbol) -> x.spans(symbol, 0));
        bounds(NO_SUCH, "spans, x", 0, 61, Boundaries::crammed, (x, symbol) -> x.spans(symbol, 2));
        bounds(NO_SUCH, "spans, x", 0, 13, BitRecogniser::new, (x, symbol) -> x.spans(symbol, 1));
        bounds(NO_SUCH, "spans, what", 0, 2, Boundaries::busy, (x, what) -> x.spans(0, what));
        bounds(NO_SUCH, "spans of no LETTERS, what", 0, 2, BitRecogniser::new, (x, what) -> x.spans(0, what));
    }
}

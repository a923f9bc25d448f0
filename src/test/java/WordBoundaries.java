/** Boundary cases of promises 32 to 42: words. */
final class WordBoundaries extends Boundaries {
    private static BitRecogniser anyWord(String word) {
        return grammar(word, "AAA", "Aa", "Ab", "Ac", "Ad", "Ae", "Af");
    }

    // ---- Promise 32: beginnings

    @Sentence(promise = 32, words = "Lengths of beginnings of THE WORD (1 and on) that START DERIVES, as bits.")
    static void beginningsOfNoneOneAndAll() {
        due("beginnings() of a new object", new BitRecogniser().beginnings(), 0);
        due("beginnings() of no LETTERS", doubling("").beginnings(), 0);
        due("beginnings() of one LETTER", doubling("a").beginnings(), 2);
        due("beginnings() of all", doubling(LONGEST).beginnings(), 0x7FFE);
        due("beginnings() of the whole WORD alone", grammar("aab", "Aaab").beginnings(), 8);
        due("beginnings() that don't begin at the first place", doubling("baaa").beginnings(), 0);
    }

    // ---- Promise 33: pieces

    @Sentence(promise = 33, words = "The fewest pieces, each DERIVED by START, into which THE WORD falls, i NONE: how many")
    static void fewestAndMostPieces() {
        due("pieces(NONE) of one", doubling(LONGEST).pieces(NONE), 1);
        due("pieces(NONE) of fourteen", grammar(LONGEST, "Aa").pieces(NONE), 14);
        due("pieces(NONE) of two rather than five", grammar("aaaaa", "Aa", "Aaaa", "Aaa").pieces(NONE), 2);
    }

    @Sentence(promise = 33, words = "else where the i-th ends (of as few the least row)")
    static void endsOfTheFirstAndTheLastPiece() {
        BitRecogniser x = grammar(LONGEST, "Aa");
        due("pieces(0) of fourteen", x.pieces(0), 1);
        due("pieces(13) of fourteen", x.pieces(13), 14);
        due("pieces(0) of one", doubling(LONGEST).pieces(0), 14);
        // 2, 5 and 3, 5 are as few: 2 ends first
        due("pieces(0) of the least row", grammar("aaaaa", "Aa", "Aaaa", "Aaa").pieces(0), 2);
        due("pieces(1) of the least row", grammar("aaaaa", "Aa", "Aaaa", "Aaa").pieces(1), 5);
    }

    @Sentence(promise = 33, words = "NONE: it doesn't, has no LETTERS, not so many")
    static void piecesThatAreNotThere() {
        each(NONE, "pieces where it doesn't", new int[] {NONE, 0, 1, GREATEST_INT}, () -> doubling("aab"), BitRecogniser::pieces);
        each(NONE, "pieces of no LETTERS", new int[] {NONE, 0, GREATEST_INT}, () -> doubling(""), BitRecogniser::pieces);
        each(NONE, "pieces of a new object", new int[] {NONE, 0}, BitRecogniser::new, BitRecogniser::pieces);
        each(NONE, "pieces, not so many", new int[] {14, 15, GREATEST_INT}, () -> grammar(LONGEST, "Aa"), BitRecogniser::pieces);
        each(NONE, "pieces, not so many", new int[] {1, 2, GREATEST_INT}, Boundaries::busy, BitRecogniser::pieces);
    }

    @Sentence(promise = 33, words = "-3: i is below NONE.")
    static void pieceBelowNone() {
        each(NO_NUMBER, "pieces", new int[] {-2, -3, LEAST_INT}, Boundaries::busy, BitRecogniser::pieces);
        each(NO_NUMBER, "pieces where it doesn't", new int[] {-2, LEAST_INT}, Boundaries::crammed, BitRecogniser::pieces);
        each(NO_NUMBER, "pieces of no LETTERS", new int[] {-2, LEAST_INT}, BitRecogniser::new, BitRecogniser::pieces);
    }

    // ---- Promise 34: turned

    @Sentence(promise = 34, words = "1, if THE WORD, its last LETTER first, would be ACCEPTED, else 0.")
    static void turnedOfNoneOneAndFourteenLetters() {
        due("turned() of no LETTERS", doubling("").turned(), 0);
        due("turned() of a new object", new BitRecogniser().turned(), 0);
        due("turned() of one LETTER", doubling("a").turned(), 1);
        due("turned() of fourteen", grammar("aaaaaaaaaaaaab", "AAa", "Ab").turned(), 1);
        due("turned() of fourteen that are ACCEPTED as they are", grammar("aaaaaaaaaaaaab", "AaA", "Ab").turned(), 0);
    }

    // ---- Promise 35: viable

    @Sentence(promise = 35, words = "some word that begins with THE WORD (or is it), else 0.")
    static void viableOfNoLettersAndOfAWholeWord() {
        due("viable() of no LETTERS", wound("").viable(), 1);
        due("viable() of no LETTERS where START never ends", grammar("", "AaA", "Bb").viable(), 0);
        due("viable() of no RULES", new BitRecogniser().viable(), 0);
        due("viable() of a beginning", wound("abc").viable(), 1);
        due("viable() of the word itself", wound("abcb").viable(), 1);
        due("viable() of the longest word itself", wound("abbcbb").viable(), 1);
        due("viable() of one LETTER more", wound("abbcbbb").viable(), 0);
        due("viable() of fourteen LETTERS of more", grammar(LONGEST, "AaaaB", "BaaaC", "CaaaD", "DaaaE", "EaaaF", "FaaaG", "Gb").viable(), 1);
    }

    // ---- Promise 36: next

    @Sentence(promise = 36, words = "such that this were so of THE WORD with that LETTER behind it.")
    static void nextOfNoneAllAndBehindFourteenLetters() {
        due("next() of no RULES", new BitRecogniser().next(), 0);
        due("next() of no LETTERS", wound("").next(), 1 << 8);
        due("next() of all six", anyWord("").next(), 0x3F00);
        due("next() of all six behind fourteen", anyWord("abcdefabcdefab").next(), 0x3F00);
        due("next() of the last LETTER", grammar("", "Af").next(), 1 << 13);
        due("next() behind what isn't viable", wound("b").next(), 0);
        due("next() behind the longest word", wound("abbcbb").next(), 0);
    }

    // ---- Promise 37: lengths

    @Sentence(promise = 37, words = "Lengths 1 to 14 of words of LETTERS that a SYMBOL could DERIVE, as bits.")
    static void lengthsOfOneAndFourteen() {
        due("lengths(0) of all", doubling("").lengths(0), 0x7FFE);
        due("lengths(8), a LETTER", new BitRecogniser().lengths(8), 2);
        due("lengths(0) of no RULES", new BitRecogniser().lengths(0), 0);
        // 2, 4, 8, 16 by A, B, C, D
        BitRecogniser x = grammar("", "Aaa", "BAA", "CBB", "DCC", "ECBa", "FCBAa", "GF");
        due("lengths(2) of eight", x.lengths(2), 1 << 8);
        due("lengths(3) of sixteen", x.lengths(3), 0);
        due("lengths(5) of fifteen", x.lengths(5), 0);
        due("lengths(4) of thirteen", x.lengths(4), 1 << 13);
        rule(x, "HCBA");
        due("lengths(7) of fourteen", x.lengths(7), 1 << 14);
        due("lengths(61), the last HELPER", crammed().lengths(61), 4);
    }

    @Sentence(promise = 37, words = "-2.")
    static void lengthsOfNoSymbol() {
        bounds(NO_SUCH, "lengths", 0, 13, BitRecogniser::new, BitRecogniser::lengths);
        bounds(NO_SUCH, "lengths", 0, 16, Boundaries::busy, BitRecogniser::lengths);
        bounds(NO_SUCH, "lengths", 0, 61, Boundaries::crammed, BitRecogniser::lengths);
    }

    // ---- Promise 38: shapes

    @Sentence(promise = 38, words = "How many TREES one of 0 to 7 has over all words of n LETTERS (1 to 14) together.")
    static void shapesOfOneAndFourteenLetters() {
        due("shapes(0, 1) of all LETTERS", anyWord("").shapes(0, 1), 6);
        due("shapes(0, 2) of all LETTERS", anyWord("").shapes(0, 2), 36);
        due("shapes(0, 14)", doubling("").shapes(0, 14), 742900);
        due("shapes(0, 14) of no RULES", new BitRecogniser().shapes(0, 14), 0);
        due("shapes(7, 1) of the last SYMBOL", grammar("", "Hf").shapes(7, 1), 1);
    }

    @Sentence(promise = 38, words = "-2: the SYMBOL; -3;")
    static void shapesOfNoSymbolOrLength() {
        bounds(NO_SUCH, "shapes, x", 0, 7, Boundaries::busy, (x, symbol) -> x.shapes(symbol, 14));
        each(NO_SUCH, "shapes, x", new int[] {8, 13, 14, 61}, Boundaries::crammed, (x, symbol) -> x.shapes(symbol, 1));
        bounds(NO_NUMBER, "shapes, n", 1, 14, Boundaries::busy, (x, n) -> x.shapes(0, n));
        bounds(NO_NUMBER, "shapes of a new object, n", 1, 14, BitRecogniser::new, (x, n) -> x.shapes(7, n));
    }

    @Sentence(promise = 38, words = "-7: above 9,223,372,036,854,775,807.")
    static void moreShapesThanALongHolds() {
        answers(NO_ROOM, "shapes(0, 14)", Sample::overgrown, x -> x.shapes(0, 14));
        answers(NO_ROOM, "shapes(2, 14)", Sample::overgrown, x -> x.shapes(2, 14));
        due("shapes(3, 14) beside it", overgrown().shapes(3, 14), 0);
        // 742900 trees, six letters at each of fourteen places: 742900 * 78364164096
        due("shapes(0, 14) of a great number", anyWord("").shapes(0, 14), 742900L * 78364164096L);
    }

    // ---- Promise 39: changes

    @Sentence(promise = 39, words = "At how few places THE WORD would have to have other LETTERS to be ACCEPTED.")
    static void fewestAndMostChanges() {
        due("changes() of none", wound("abcb").changes(), 0);
        due("changes() of one", wound("abcc").changes(), 1);
        due("changes() of none, of the first LETTER alone", doubling("a").changes(), 0);
        due("changes() of none, fourteen times the first LETTER", doubling(LONGEST).changes(), 0);
        due("changes() of fourteen", doubling("bcdefbcdefbcde").changes(), 14);
        due("changes() of one of fourteen", doubling("aaaaaaaaaaaaaf").changes(), 1);
    }

    @Sentence(promise = 39, words = "NONE: it can't be so.")
    static void changesThatCannotBe() {
        answers(NONE, "changes() of a new object", BitRecogniser::new, BitRecogniser::changes);
        answers(NONE, "changes() of no LETTERS", () -> doubling(""), BitRecogniser::changes);
        answers(NONE, "changes() of a length that no word has", Boundaries::crammed, BitRecogniser::changes);
        answers(NONE, "changes() of no RULES", () -> grammar(LONGEST), BitRecogniser::changes);
        answers(NONE, "changes() of another START", () -> startAt(busy(), 7), BitRecogniser::changes);
    }

    // ---- Promise 40: changed

    @Sentence(promise = 40, words = "LETTER (8 to 13) i of the first by LETTERS of such words with so few others.")
    static void firstAndLastChangedLetter() {
        BitRecogniser x = grammar("bbbbbbbbbbbbbb", "AAA", "Aa", "Af");
        due("changed(0)", x.changed(0), 8);
        due("changed(13)", x.changed(13), 8);
        BitRecogniser y = grammar("bbbbbbbbbbbbbf", "AAA", "Aa", "Af");
        due("changed(12)", y.changed(12), 8);
        due("changed(13), which can stay", y.changed(13), 13);
        due("changed(0) of one LETTER", grammar("b", "Af", "Ae").changed(0), 12);
        due("changed(0) of none, of the first LETTER alone", doubling("a").changed(0), 8);
        due("changed(13) of none", doubling(LONGEST).changed(13), 8);
    }

    @Sentence(promise = 40, words = "NONE: there is none, not so many")
    static void changedLetterThatIsNotThere() {
        each(NONE, "changed of a new object", new int[] {0, GREATEST_INT}, BitRecogniser::new, BitRecogniser::changed);
        each(NONE, "changed of no LETTERS", new int[] {0, 1}, () -> doubling(""), BitRecogniser::changed);
        each(NONE, "changed of a length that no word has", new int[] {0, 13, 14}, Boundaries::crammed, BitRecogniser::changed);
        each(NONE, "changed, not so many", new int[] {4, 5, GREATEST_INT}, Boundaries::busy, BitRecogniser::changed);
        each(NONE, "changed of fourteen, not so many", new int[] {14, 15, GREATEST_INT}, () -> doubling(LONGEST), BitRecogniser::changed);
    }

    @Sentence(promise = 40, words = "-3: i is below 0.")
    static void changedLetterBelowTheFirst() {
        each(NO_NUMBER, "changed", new int[] {-1, -2, LEAST_INT}, Boundaries::busy, BitRecogniser::changed);
        each(NO_NUMBER, "changed where there is none", new int[] {-1, LEAST_INT}, BitRecogniser::new, BitRecogniser::changed);
    }

    // ---- Promise 41: words

    @Sentence(promise = 41, words = "How many unlike words of n LETTERS (1 to 4) START would DERIVE.")
    static void fewestAndMostWords() {
        int[] all = {6, 36, 216, 1296};
        for (int n = 1; n <= 4; n++) {
            due("words(" + n + ") of all", anyWord("").words(n), all[n - 1]);
            due("words(" + n + ") of no RULES", new BitRecogniser().words(n), 0);
            due("words(" + n + ") of one LETTER", doubling("").words(n), 1);
        }
        BitRecogniser x = grammar("", "AB", "BH", "Hf", "Hff", "Hfff", "Hffff");
        for (int n = 1; n <= 4; n++) {
            due("words(" + n + ") of the last one, along UNITS", x.words(n), 1);
            due("first(" + n + ", " + (n - 1) + ") of the last one, along UNITS", x.first(n, n - 1), 13);
        }
        due("words(4) of the first and the last one", grammar("", "Aaaaa", "Affff").words(4), 2);
    }

    @Sentence(promise = 41, words = "-3.")
    static void wordsOfNoSuchLength() {
        bounds(NO_NUMBER, "words", 1, 4, Boundaries::busy, BitRecogniser::words);
        bounds(NO_NUMBER, "words of a new object", 1, 4, BitRecogniser::new, BitRecogniser::words);
    }

    // ---- Promise 42: first

    @Sentence(promise = 42, words = "LETTER (8 to 13) i of the first by LETTERS of these.")
    static void firstAndLastLetterOfTheFirstWord() {
        BitRecogniser x = grammar("", "Affff", "Afffe", "Afff", "Aff", "Af");
        int[] four = {13, 13, 13, 12};
        for (int i = 0; i < 4; i++) {
            due("first(4, " + i + ")", x.first(4, i), four[i]);
        }
        due("first(3, 2)", x.first(3, 2), 13);
        due("first(1, 0)", x.first(1, 0), 13);
        for (int i = 0; i < 4; i++) {
            due("first(4, " + i + ") of all", anyWord("").first(4, i), 8);
        }
    }

    @Sentence(promise = 42, words = "NONE: there is none, not so many")
    static void letterOfAFirstWordThatIsNotThere() {
        for (int length = 1; length <= 4; length++) {
            int n = length;
            each(NONE, "first of a new object, n " + n + ", i", new int[] {0, n - 1, n, GREATEST_INT}, BitRecogniser::new, (x, i) -> x.first(n, i));
            each(NONE, "first of all, n " + n + ", i", new int[] {n, n + 1, GREATEST_INT}, () -> anyWord(""), (x, i) -> x.first(n, i));
        }
        answers(NONE, "first(3, 0) of a length that no word has", Boundaries::busy, x -> x.first(3, 0));
    }

    @Sentence(promise = 42, words = "-3: n, i is below 0.")
    static void firstOfNoSuchLengthOrLetter() {
        bounds(NO_NUMBER, "first, n", 1, 4, Boundaries::busy, (x, n) -> x.first(n, 0));
        each(NO_NUMBER, "first, i", new int[] {-1, -2, LEAST_INT}, Boundaries::busy, (x, i) -> x.first(4, i));
        each(NO_NUMBER, "first of a new object, i", new int[] {-1, LEAST_INT}, BitRecogniser::new, (x, i) -> x.first(1, i));
    }
}

/** Boundary cases of the words that the document tells ahead of its promises. */
final class TermsBoundaries extends Boundaries {
    @Sentence(promise = 0, words = "An object is used for at most 512 calls after it has been made")
    static void call512AnswersAsTheFirst() {
        BitRecogniser x = new BitRecogniser();
        // 510 calls: each round tells a rule and drops it again
        for (int round = 0; round < 170; round++) {
            due("feed", x.feed(0x41610000, 0, 0, 0, 0), 20);
            due("rule(2)", x.rule(2), 0);
            due("drop(0)", x.drop(0), 0);
        }
        due("call 511", x.undo(1), 9);
        due("call 512", x.count(1), 1);
    }

    @Sentence(promise = 0, words = "SYMBOLS 0 to 7: A to H; 8 to 13: LETTERS a to f; 14 and on: HELPERS.")
    static void firstAndLastOfTheSymbols() {
        BitRecogniser x = grammar("", "AAHaf");
        int[] parts = {0, 7, 8, 13};
        for (int i = 0; i < parts.length; i++) {
            due("part(0, " + i + ")", x.part(0, i), parts[i]);
        }
        due("least(13)", x.least(13), 1);
        due("least(14), the first HELPER", x.least(14), NONE);
        due("least(15), the last HELPER of two", x.least(15), 2);
        due("least(16)", x.least(16), NO_SUCH);
        due("least(14) of no HELPERS", doubling("").least(14), NO_SUCH);
        due("least(61), the last HELPER of 48", crammed().least(61), 2);
        due("least(62)", crammed().least(62), NO_SUCH);
    }

    @Sentence(promise = 0, words = "RULES have numbers 0 to 15 (none at first).")
    static void rulesFromNumber0To15() {
        BitRecogniser x = new BitRecogniser();
        due("count(1)", x.count(1), 0);
        for (int r = 0; r < 16; r++) {
            due("rule", rule(x, "" + "AH".charAt(r / 8) + "ABCDEFGH".charAt(r % 8)), r);
        }
        due("rule of a 17th", rule(x, "Bb"), TOO_MANY);
        due("part(15, 0)", x.part(15, 0), 7);
        due("part(16, 0)", x.part(16, 0), NO_SUCH);
    }

    @Sentence(promise = 0, words = "START: one of A to H (A at first).")
    static void startIsAAtFirst() {
        BitRecogniser x = new BitRecogniser();
        due("count(4)", x.count(4), 0);
        rule(x, "Aa");
        rule(x, "Hb");
        word(x, "a");
        due("accepted() by A", x.accepted(), 1);
        x.start(7);
        due("accepted() by H", x.accepted(), 0);
        word(x, "b");
        due("accepted() by H", x.accepted(), 1);
    }

    @Sentence(promise = 0, words = "THE WORD: 0 to 14 LETTERS (none at first).")
    static void wordOfNoneAtFirst() {
        due("count(5)", new BitRecogniser().count(5), 0);
        BitRecogniser x = doubling(LONGEST);
        due("count(5)", x.count(5), 14);
        due("word of fifteen", word(x, LONGEST + "a"), -33);
        due("count(5)", x.count(5), 14);
    }

    @Sentence(promise = 0, words = "UNITS: RULES of one PART.")
    static void rulesOfOnePart() {
        BitRecogniser x = grammar("", "Aa", "AA", "HA");
        due("count(2)", x.count(2), 3);
        due("count(3)", x.count(3), 0);
        due("pairs()", x.pairs(), 0);
    }

    @Sentence(promise = 0, words = "of a RULE of two PARTS: a PAIR: its SYMBOL from the first and the second one.")
    static void ruleOfTwoParts() {
        BitRecogniser x = grammar("", "Haf");
        due("count(2)", x.count(2), 0);
        due("count(3)", x.count(3), 0);
        due("pairs()", x.pairs(), 1);
        checkPair(x, 0, 7, 8, 13, 0);
    }

    private static void checkPair(BitRecogniser x, int i, int... row) {
        for (int what = 0; what < 4; what++) {
            due("pair(" + i + ", " + what + ")", x.pair(i, what), row[what]);
        }
    }

    @Sentence(promise = 0, words = "the last of its n - 2 HELPERS from the last two PARTS.")
    static void rulesOfThreeAndOfFiveParts() {
        BitRecogniser x = grammar("", "Hafb");
        due("count(3) of three", x.count(3), 1);
        checkPair(x, 0, 7, 8, 14, 0);
        checkPair(x, 1, 14, 13, 9, 0);
        BitRecogniser y = grammar("", "HabcdA");
        due("count(3) of five", y.count(3), 3);
        checkPair(y, 0, 7, 8, 14, 0);
        checkPair(y, 1, 14, 9, 15, 0);
        checkPair(y, 2, 15, 10, 16, 0);
        checkPair(y, 3, 16, 11, 0, 0);
        due("pairs() of five", y.pairs(), 4);
    }

    @Sentence(promise = 0, words = "HELPERS are numbered RULE by RULE, rising, then along the RULE; PAIRS likewise.")
    static void helpersOfALowerRuleThatComesLater() {
        BitRecogniser x = grammar("", "Aa", "Babc");
        due("back(14, 0)", x.back(14, 0), 1);
        x.drop(0);
        due("rule into the gap", rule(x, "Cabcd"), 0);
        int[][] helpers = {{0, 1}, {0, 2}, {1, 1}};
        for (int h = 0; h < 3; h++) {
            due("back(" + (14 + h) + ", 0)", x.back(14 + h, 0), helpers[h][0]);
            due("back(" + (14 + h) + ", 1)", x.back(14 + h, 1), helpers[h][1]);
        }
        checkPair(x, 0, 2, 8, 14, 0);
        checkPair(x, 2, 15, 10, 11, 0);
        checkPair(x, 3, 1, 8, 16, 1);
        checkPair(x, 4, 16, 9, 10, 1);
    }

    @Sentence(promise = 0, words = "(0 at least, i below j, j its length at most)")
    static void firstAndLastSpans() {
        BitRecogniser x = doubling(LONGEST);
        due("cell(0, 1)", x.cell(0, 1), 0x101);
        due("cell(13, 14)", x.cell(13, 14), 0x101);
        due("cell(0, 14)", x.cell(0, 14), 1);
        due("cell(-1, 14)", x.cell(-1, 14), NO_SUCH);
        due("cell(0, 15)", x.cell(0, 15), NO_SUCH);
        due("cell(14, 14)", x.cell(14, 14), NO_SUCH);
        due("cell(14, 13)", x.cell(14, 13), NO_SUCH);
    }

    @Sentence(promise = 0, words = "the second that from k to j, for some k between (a CUT).")
    static void spanOfOneLetterHasNoCut() {
        BitRecogniser x = grammar("a", "AAA", "AAAA");
        due("accepted() of one LETTER by PAIRS alone", x.accepted(), 0);
        due("cuts(8, 8, 0, 1)", x.cuts(8, 8, 0, 1), 0);
        BitRecogniser y = grammar("aa", "Aaa", "Baaa");
        due("accepted() of the only CUT", y.accepted(), 1);
        due("cuts(8, 8, 0, 2)", y.cuts(8, 8, 0, 2), 1);
        due("row(1, 0) of three PARTS over two LETTERS", y.row(1, 0), 0);
    }

    @Sentence(promise = 0, words = "ROUNDS: behind ROUND 0 there is what LETTERS, and UNITS alone, step by step, make so")
    static void unitsAloneAreOfRound0() {
        BitRecogniser x = grammar("ff", "AB", "BC", "CD", "DE", "EF", "FG", "GH", "Hf", "HHH");
        for (int name = 0; name < 8; name++) {
            due("round(" + name + ", 0, 1)", x.round(name, 0, 1), 0);
            due("round(" + name + ", 0, 2)", x.round(name, 0, 2), 1);
        }
        due("round(13, 1, 2), a LETTER", x.round(13, 1, 2), 0);
        due("last()", x.last(), 1);
    }

    @Sentence(promise = 0, words = "but along UNITS that lead from one to the next over one SPAN no SYMBOL comes twice.")
    static void unitsThatLeadBack() {
        due("trees of a UNIT onto itself", grammar("a", "AA", "Aa").trees(0, 0, 1), 1);
        BitRecogniser ring = grammar("a", "AB", "BC", "CD", "DE", "EF", "FG", "GH", "HA", "Ha");
        for (int name = 0; name < 8; name++) {
            due("trees(" + name + ", 0, 1) along a ring", ring.trees(name, 0, 1), 1);
        }
        due("nodes() along a ring", ring.nodes(), 8);
        // over another SPAN the same SYMBOLS come again
        due("trees over two SPANS", grammar("aa", "AB", "BA", "Aa", "ABB").trees(0, 0, 2), 1);
        due("trees where the first RULE would lead back", grammar("a", "AB", "BA", "Ba").nodes(), 2);
    }

    @Sentence(promise = 0, words = "THE FIRST TREE: the RULE of the least number with which there is one, of its CUTS the least row")
    static void firstTreeOfTheLeastNumber() {
        BitRecogniser x = grammar("aaa", "AB", "BA", "AaA", "AAa", "Aa");
        // RULE 0 would come back to A; of 2 and 3 the first one
        due("node(0, 0)", x.node(0, 0), 2);
        x.drop(2);
        due("node(0, 0) without it", x.node(0, 0), 3);
        rule(x, "AAAA");
        due("node(0, 0) of one of the lowest free number", x.node(0, 0), 2);
        BitRecogniser y = grammar("aaaaa", "AAAA", "Aa");
        due("node(1, 2), the first CUT", y.node(1, 2), 1);
        due("node(2, 2), the second CUT", y.node(2, 2), 2);
        due("node(3, 2)", y.node(3, 2), 5);
    }

    @Sentence(promise = 0, words = "each ahead of those below it, from the left, numbered from 0 on.")
    static void nodesFrom0On() {
        BitRecogniser x = doubling("aa");
        due("node(-1, 0)", x.node(-1, 0), NO_SUCH);
        due("node(0, 0)", x.node(0, 0), 0);
        due("node(1, 1)", x.node(1, 1), 0);
        due("node(2, 1)", x.node(2, 1), 1);
        due("node(3, 0)", x.node(3, 0), NO_SUCH);
    }

    @Sentence(promise = 0, words = "FORM 0: START alone")
    static void formZeroIsStart() {
        BitRecogniser x = grammar("b", "Hb");
        x.start(7);
        due("form(0, 0)", x.form(0, 0), 7);
        due("length(0)", x.length(0), 1);
        due("form(1, 0)", x.form(1, 0), 9);
        due("form(2, 0)", x.form(2, 0), NO_SUCH);
    }

    @Sentence(promise = 0, words = "of the shortest word of LETTERS that a SYMBOL could DERIVE, whatever THE WORD is.")
    static void leastLengthIsWithoutTheWord() {
        due("least(0) of no LETTERS", wound("").least(0), 4);
        due("least(0) of another WORD", wound("fffff").least(0), 4);
        due("least(0) of more LETTERS than a WORD has", grammar("a", "ABBBB", "BCCCC", "Caaaa").least(0), 64);
    }

    @Sentence(promise = 0, words = "(one without LETTERS never is)")
    static void wordWithoutLettersIsNeverAccepted() {
        due("accepted() of no LETTERS", doubling("").accepted(), 0);
        due("accepted() of a UNIT onto itself", grammar("", "AA", "Aa").accepted(), 0);
        due("turned() of no LETTERS", doubling("").turned(), 0);
        due("nodes() of no LETTERS", doubling("").nodes(), 0);
        due("changes() of no LETTERS", doubling("").changes(), NONE);
        due("pieces(NONE) of no LETTERS", doubling("").pieces(NONE), NONE);
    }

    @Sentence(promise = 0, words = "(rule(), drop(), start(), word() that aren't refused) can be UNDONE each as a whole, the latest first")
    static void eachCallThatTellsCanBeUndone() {
        BitRecogniser x = new BitRecogniser();
        rule(x, "Babcde");
        x.start(1);
        word(x, "abcde");
        x.drop(0);
        due("count(6)", x.count(6), 4);
        due("accepted()", x.accepted(), 0);
        due("undo of drop()", x.undo(1), 3);
        due("accepted()", x.accepted(), 1);
        due("pairs()", x.pairs(), 4);
        due("undo of word()", x.undo(1), 2);
        due("count(5)", x.count(5), 0);
        due("undo of start()", x.undo(1), 1);
        due("count(4)", x.count(4), 0);
        due("undo of rule()", x.undo(1), 0);
        due("count(0)", x.count(0), 0);
    }

    @Sentence(promise = 0, words = "(rule(), drop(), start(), word() that aren't refused) can be UNDONE each as a whole, the latest first")
    static void refusedCallsAndOthersCannotBeUndone() {
        BitRecogniser x = doubling("aa");
        due("count(6)", x.count(6), 3);
        x.start(0);
        x.start(8);
        x.drop(2);
        rule(x, "Aa");
        rule(x, "Z");
        word(x, "Z");
        x.rule(-1);
        x.word(99);
        x.tray(0, 20);
        x.copy(0, 0, 0);
        x.image(1);
        x.undo(0);
        x.undo(4);
        due("count(6)", x.count(6), 3);
        due("undo(1)", x.undo(1), 2);
        due("count(5)", x.count(5), 0);
    }

    @Sentence(promise = 0, words = "10 at most (eldest are forgotten)")
    static void eleventhCallForgetsTheEldest() {
        BitRecogniser x = new BitRecogniser();
        for (int n = 1; n <= 10; n++) {
            word(x, LONGEST.substring(0, n));
            due("count(6)", x.count(6), n);
        }
        x.start(5);
        due("count(6) behind the eleventh", x.count(6), 10);
        due("undo(11)", x.undo(11), NO_NUMBER);
        due("undo(10)", x.undo(10), 0);
        due("count(5): the first word stays", x.count(5), 1);
        due("count(4)", x.count(4), 0);
    }

    @Sentence(promise = 0, words = "10 at most (eldest are forgotten)")
    static void undoneCallsMakeRoomForTen() {
        BitRecogniser x = new BitRecogniser();
        for (int n = 1; n <= 14; n++) {
            word(x, LONGEST.substring(0, n));
        }
        due("undo(7)", x.undo(7), 3);
        for (int n = 0; n < 9; n++) {
            word(x, LONGEST.substring(0, n));
            due("count(6)", x.count(6), Math.min(10, 4 + n));
        }
        // words of 6 and 7 letters, then of none to eight: of those the last ten
        for (int n = 7; n >= 0; n--) {
            due("undo(1)", x.undo(1), n + 2);
            due("count(5)", x.count(5), n);
        }
        due("undo(1)", x.undo(1), 1);
        due("count(5)", x.count(5), 7);
        due("undo(1)", x.undo(1), 0);
        due("count(5)", x.count(5), 6);
        due("undo(1)", x.undo(1), NO_NUMBER);
    }

    @Sentence(promise = 0, words = "IMAGES 0 to 1: the same (none at first)")
    static void noImagesAtFirst() {
        BitRecogniser x = new BitRecogniser();
        due("restore(0)", x.restore(0), NOT_MADE);
        due("restore(1)", x.restore(1), NOT_MADE);
        due("restore(2)", x.restore(2), NO_SUCH);
        due("image(1)", x.image(1), 0);
        due("restore(0)", x.restore(0), NOT_MADE);
        due("restore(1)", x.restore(1), 0);
    }

    @Sentence(promise = 0, words = "nothing can be UNDONE behind.")
    static void nothingCanBeUndoneBehindRestore() {
        BitRecogniser x = busy();
        due("count(6)", x.count(6), 10);
        due("restore(1)", x.restore(1), 0);
        due("count(6)", x.count(6), 0);
        due("undo(1)", x.undo(1), NO_NUMBER);
        x.start(2);
        due("undo(2)", x.undo(2), NO_NUMBER);
        due("undo(1) of what was told behind it", x.undo(1), 0);
        due("count(4)", x.count(4), 0);
    }

    @Sentence(promise = 0, words = "TRAYS 0 to 2 are MISSING at first, or have 0 to 20 longs.")
    static void traysAreMissingAtFirst() {
        BitRecogniser x = new BitRecogniser();
        for (int tray = 0; tray < 3; tray++) {
            due("number(" + tray + ", 0)", x.number(tray, 0), NOT_MADE);
        }
        due("number(3, 0)", x.number(3, 0), NO_SUCH);
        due("tray(2, 0)", x.tray(2, 0), 0);
        due("number(2, 0), no longer MISSING", x.number(2, 0), NO_ROOM);
        due("tray(2, 20)", x.tray(2, 20), 0);
        due("number(2, 19)", x.number(2, 19), 0);
        due("number(1, 0), still MISSING", x.number(1, 0), NOT_MADE);
    }

    @Sentence(promise = 0, words = "The k-th, the i-th of whatever: from 0 on, where it isn't told otherwise.")
    static void countingFrom0() {
        BitRecogniser x = busy();
        due("part(0, 0)", x.part(0, 0), 8);
        due("pair(0, 0)", x.pair(0, 0), 0);
        due("node(0, 1)", x.node(0, 1), 0);
        due("form(0, 0)", x.form(0, 0), 0);
        due("pieces(0)", x.pieces(0), 4);
        due("changed(0)", x.changed(0), 8);
        due("first(4, 0)", x.first(4, 0), 8);
        due("number(0, 0)", x.number(0, 0), x.cell(1, 2));
    }

    @Sentence(promise = 0, words = "-30 less the FAULT: a text (THE TAPE is empty then; nothing else changes).")
    static void textWithAFaultEmptiesTheTape() {
        faulty(1, 0, "rule(20)", () -> feeding(" "), x -> x.rule(20));
        faulty(2, 0, "rule(0)", () -> feeding(" "), x -> x.rule(0));
        faulty(3, 6, "rule(40)", () -> feeding("Aaaaaaa"), x -> x.rule(40));
        faulty(1, 0, "word(20)", () -> feeding("A"), x -> x.word(20));
        faulty(3, 14, "word(40)", () -> feeding(LONGEST + "a"), x -> x.word(40));
    }

    /** The busy one with these bytes alone on the tape, and twenty more. */
    private static BitRecogniser feeding(String text) {
        BitRecogniser x = busy();
        x.rule(0);
        feed(x, text);
        feed(x, "");
        return x;
    }

    // ---- which of several codes comes first

    private static final String SEVERAL = "(Of several that which the call tells first; all these ahead of NONE.)";

    @Sentence(promise = 0, words = SEVERAL)
    static void severalAtRule() {
        BitRecogniser x = full();
        due("-3 ahead of -4", x.rule(1), NO_NUMBER);
        feed(x, "Z");
        due("-4 ahead of -31", x.rule(1), TOO_MANY);
        due("-4 ahead of -32", x.rule(0), TOO_MANY);
        due("-4 ahead of -33", x.rule(20), TOO_MANY);
        x.word(0);
        feed(x, "Aaaaaa");
        due("-4 ahead of -5", x.rule(6), TOO_MANY);
    }

    @Sentence(promise = 0, words = SEVERAL)
    static void severalAtPart() {
        BitRecogniser x = busy();
        due("-2 ahead of -3", x.part(2, -2), NO_SUCH);
        due("-2 ahead of NONE", x.part(2, 5), NO_SUCH);
        due("-2 ahead of NONE", x.part(16, GREATEST_INT), NO_SUCH);
    }

    @Sentence(promise = 0, words = SEVERAL)
    static void severalAtSpans() {
        BitRecogniser x = busy();
        due("round: -2 of the SPAN ahead of NONE", x.round(7, 0, 5), NO_SUCH);
        due("round: -2 of the SYMBOL ahead of NONE", x.round(17, 0, 3), NO_SUCH);
        due("spans: -2 of the SYMBOL ahead of NONE", x.spans(17, 2), NO_SUCH);
        due("least: -2 ahead of NONE", x.least(17), NO_SUCH);
    }

    @Sentence(promise = 0, words = SEVERAL)
    static void severalAtTrees() {
        BitRecogniser x = overgrown();
        due("trees: -2 ahead of -7", x.trees(8, 0, 14), NO_SUCH);
        due("trees: -2 ahead of -7", x.trees(0, 0, 15), NO_SUCH);
        due("doubtful: -2 ahead of -7", x.doubtful(3), NO_SUCH);
        due("tree: -7 ahead of -3", x.tree(-1, NONE, 0), NO_ROOM);
        due("tree: -7 ahead of -2", x.tree(0, -2, 5), NO_ROOM);
        due("shapes: -2 ahead of -3", x.shapes(8, 0), NO_SUCH);
        due("shapes: -3 rather than -7", x.shapes(0, 15), NO_NUMBER);
        BitRecogniser y = doubling("aa");
        due("doubtful: -2 ahead of NONE", y.doubtful(-1), NO_SUCH);
        due("tree: -3 ahead of -2", y.tree(1, -2, 5), NO_NUMBER);
        due("tree: -3 ahead of -2", y.tree(-1, 3, 5), NO_NUMBER);
    }

    @Sentence(promise = 0, words = SEVERAL)
    static void severalAtForm() {
        BitRecogniser x = doubling("aa");
        due("-2 ahead of -3", x.form(4, -1), NO_SUCH);
        due("-2 ahead of NONE", x.form(4, 99), NO_SUCH);
        due("-2 of what isn't ACCEPTED ahead of -3", doubling("b").form(0, -1), NO_SUCH);
    }

    @Sentence(promise = 0, words = SEVERAL)
    static void severalAtWords() {
        BitRecogniser x = new BitRecogniser();
        due("pieces: -3 ahead of NONE", x.pieces(-2), NO_NUMBER);
        due("changed: -3 ahead of NONE", x.changed(-1), NO_NUMBER);
        due("first: -3 of n ahead of NONE", x.first(5, 5), NO_NUMBER);
        due("first: -3 of i ahead of NONE", x.first(1, -1), NO_NUMBER);
    }

    @Sentence(promise = 0, words = SEVERAL)
    static void severalAtTrays() {
        BitRecogniser x = doubling("aa");
        due("tray: -2 ahead of -3", x.tray(3, 21), NO_SUCH);
        due("copy: -2 of the TRAY ahead of -6", x.copy(3, -1, 0), NO_SUCH);
        due("copy: -2 of i ahead of -6", x.copy(0, 0, 3), NO_SUCH);
        due("copy: -6 ahead of -7", x.copy(0, -1, 0), NOT_MADE);
        due("number: -2 ahead of -6", x.number(3, -1), NO_SUCH);
        due("number: -6 ahead of -7", x.number(0, -1), NOT_MADE);
        x.tray(0, 2);
        due("copy: -2 of i ahead of -7", x.copy(0, 9, -1), NO_SUCH);
        due("restore: -2 ahead of -6", x.restore(2), NO_SUCH);
    }

    // ---- the constant

    @Sentence(promise = 0, words = "`NONE = -1`: There is none.")
    static void noneIsMinusOne() {
        due("NONE", BitRecogniser.NONE, -1);
    }
}

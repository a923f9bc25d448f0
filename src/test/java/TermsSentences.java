/** What the words ahead of the promises say of ordinary cases, reckoned by hand; TermsBoundaries has the edges. */
final class TermsSentences extends Boundaries {
    private static final String SIGNS = "ABCDEFGHabcdef";

    // ---- What it is

    @Sentence(promise = 0, words = "A recogniser of words by a grammar: rules told, made binary with a way back, a closure of sets of symbols "
            + "over spans of a word, packed as bits, products of two symbols, in how many rounds what is there;")
    static void fromRulesToRounds() {
        BitRecogniser x = wound("abcb");
        due("count(0)", x.count(0), 5);
        due("pairs()", x.pairs(), 4);
        due("back(15, 1)", x.back(15, 1), 2);
        due("cell(1, 2)", x.cell(1, 2), 0x206);
        due("product(1, 15, 1)", x.product(1, 15, 1), 1 << 4);
        due("round(0, 0, 4)", x.round(0, 0, 4), 3);
    }

    @Sentence(promise = 0, words = "how many trees there are, the first one with the rules that were told, its leftmost forms; "
            + "what units lead to, what brings words about, how short ones;")
    static void fromTreesToLeastLengths() {
        BitRecogniser x = wound("abcb");
        due("trees(0, 0, 4)", x.trees(0, 0, 4), 1);
        due("node(4, 0)", x.node(4, 0), 3);
        due("form(3, 1)", x.form(3, 1), 9);
        due("units(1)", x.units(1), 0x206);
        due("reached(1)", x.reached(1), 7);
        due("least(0)", x.least(0), 4);
    }

    @Sentence(promise = 0, words = "which beginnings, which fewest pieces of a word are words, by how few letters that are others it would be one, "
            + "how many words of a length there are;")
    static void fromBeginningsToWords() {
        BitRecogniser x = wound("abcbabbcb");
        due("beginnings()", x.beginnings(), 1 << 4);
        due("pieces(NONE)", x.pieces(NONE), 2);
        due("pieces(0)", x.pieces(0), 4);
        due("pieces(1)", x.pieces(1), 9);
        due("changes() of too many LETTERS", x.changes(), NONE);
        word(x, "bbcc");
        due("changes()", x.changes(), 2);
        due("words(4)", x.words(4), 1);
    }

    @Sentence(promise = 0, words = "rows copied, undone, images to go on from. ==== 1.")
    static void fromCopiedRowsToImages() {
        BitRecogniser x = wound("abcb");
        x.tray(0, 4);
        due("copy(0, 1, 1)", x.copy(0, 1, 1), 3);
        due("number(0, 1)", x.number(0, 1), 0x206);
        due("number(0, 3)", x.number(0, 3), 1L << 14);
        x.image(0);
        due("undo(1)", x.undo(1), 5);
        due("count(5)", x.count(5), 0);
        due("restore(0)", x.restore(0), 0);
        due("accepted()", x.accepted(), 1);
    }

    @Sentence(promise = 0, words = "what later calls answer is free.")
    static void laterCallsEndToo() {
        BitRecogniser x = busy();
        for (int call = 0; call < 600; call++) {
            x.start(call & 7);
            x.undo(call & 3);
        }
        // not what they answer: only that they do
        for (int i = NONE; i < 16; i++) {
            Portrait.of(x);
            x.tree(i, i, i);
            x.image(i);
        }
    }

    // ---- RULES, PAIRS

    @Sentence(promise = 0, words = "A RULE: one of A to H, and 1 to 5 PARTS behind it, each one of A to H or a LETTER;")
    static void rulesOfEachSymbolAndSize() {
        for (int head = 0; head < 8; head++) {
            BitRecogniser x = new BitRecogniser();
            for (int size = 1; size <= 5; size++) {
                StringBuilder text = new StringBuilder().append(SIGNS.charAt(head));
                for (int i = 0; i < size; i++) {
                    text.append(SIGNS.charAt((head + 3 * i + size) % 14));
                }
                due("rule " + text, rule(x, text.toString()), size - 1);
                due("part of " + text + ", NONE", x.part(size - 1, NONE), head);
                for (int i = 0; i < size; i++) {
                    due("part of " + text + ", " + i, x.part(size - 1, i), (head + 3 * i + size) % 14);
                }
                due("part of " + text + ", " + size, x.part(size - 1, size), NONE);
            }
            due("count(2)", x.count(2), 1);
            due("count(3)", x.count(3), 1 + 2 + 3);
            due("pairs()", x.pairs(), 1 + 2 + 3 + 4);
        }
    }

    @Sentence(promise = 0, words = "UNITS: RULES of one PART. BINARY: of a RULE of two PARTS: a PAIR")
    static void unitsHaveNoPairs() {
        BitRecogniser x = grammar("", "BC", "Bf", "BCf", "CfB");
        due("count(2)", x.count(2), 2);
        due("pairs()", x.pairs(), 2);
        checkPair(x, 0, 1, 2, 13, 2);
        checkPair(x, 1, 2, 13, 1, 3);
    }

    private static void checkPair(BitRecogniser x, int i, int... row) {
        for (int what = 0; what < 4; what++) {
            due("pair(" + i + ", " + what + ")", x.pair(i, what), row[what]);
        }
    }

    @Sentence(promise = 0, words = "Of one of n PARTS, 3 and more: PAIRS: its SYMBOL from the first PART and a HELPER, "
            + "that from the second PART and a next HELPER, and so on,")
    static void pairsAlongARule() {
        // behind a RULE that has a HELPER and two PAIRS
        BitRecogniser three = grammar("", "Babc", "HfAe");
        due("count(3) of three", three.count(3), 2);
        checkPair(three, 2, 7, 13, 15, 1);
        checkPair(three, 3, 15, 0, 12, 1);
        BitRecogniser four = grammar("", "Babc", "HfAeB");
        due("count(3) of four", four.count(3), 3);
        checkPair(four, 2, 7, 13, 15, 1);
        checkPair(four, 3, 15, 0, 16, 1);
        checkPair(four, 4, 16, 12, 1, 1);
        BitRecogniser five = grammar("", "Babc", "HfAeBd");
        due("count(3) of five", five.count(3), 4);
        checkPair(five, 2, 7, 13, 15, 1);
        checkPair(five, 3, 15, 0, 16, 1);
        checkPair(five, 4, 16, 12, 17, 1);
        checkPair(five, 5, 17, 1, 11, 1);
    }

    // ---- SPANS, what DERIVES them, ROUNDS

    @Sentence(promise = 0, words = "A SPAN: places i to j of THE WORD")
    static void spansOfAWord() {
        BitRecogniser x = grammar("abcdef");
        int spans = 0;
        for (int i = 0; i < 7; i++) {
            for (int j = 0; j < 7; j++) {
                spans += x.cell(i, j) == NO_SUCH ? 0 : 1;
                due("cell(" + i + ", " + j + ")", x.cell(i, j), j <= i ? NO_SUCH : j == i + 1 ? 256L << i : 0);
            }
        }
        due("how many", spans, 21);
    }

    @Sentence(promise = 0, words = ": its LETTERS from place i on, ahead of place j.")
    static void lettersOfASpan() {
        String text = "abcdef";
        for (int i = 0; i < 6; i++) {
            for (int j = i + 1; j <= Math.min(6, i + 5); j++) {
                BitRecogniser x = grammar(text, "A" + text.substring(i, j));
                due("spans(0, 0) of " + text.substring(i, j), x.spans(0, 0), 1);
                due("row(0, " + i + ")", x.row(0, i), 1 << j);
            }
        }
    }

    @Sentence(promise = 0, words = "DERIVES: a LETTER the SPAN of that one LETTER; a SYMBOL a SPAN, if a UNIT of it has a PART that DERIVES it, "
            + "or a PAIR of it two SYMBOLS, of which the first DERIVES the SPAN from i to k, the second that from k to j,")
    static void whatDerivesEachSpan() {
        BitRecogniser x = grammar("abab", "Aa", "BA", "CAb", "DCC", "ECB");
        long[][] cells = {{0x103, 4, 0x10, 8}, {0x200, 0, 0}, {0x103, 4}, {0x200}};
        for (int i = 0; i < 4; i++) {
            for (int j = i + 1; j <= 4; j++) {
                due("cell(" + i + ", " + j + ")", x.cell(i, j), cells[i][j - i - 1]);
            }
        }
        // a a and a a a of A a a a b, from each place on
        BitRecogniser y = grammar("aaab", "Aaaab");
        due("cell(0, 4)", y.cell(0, 4), 1);
        due("cell(1, 4), the first HELPER", y.cell(1, 4), 1L << 14);
        due("cell(2, 4), the second HELPER", y.cell(2, 4), 1L << 15);
        due("cell(0, 3)", y.cell(0, 3), 0);
    }

    @Sentence(promise = 0, words = "; behind each next one, what was there, what a PAIR makes of two that were there, and what UNITS make of that.")
    static void roundByRound() {
        BitRecogniser x = grammar("bcbc", "ABC", "Bb", "Cc", "DA", "EDD", "FE");
        int[][] rounds = {{9, 0, 1, 0}, {1, 0, 1, 0}, {2, 1, 2, 0}, {0, 0, 2, 1}, {3, 0, 2, 1}, {3, 2, 4, 1}, {4, 0, 4, 2}, {5, 0, 4, 2}, {0, 1, 3, NONE}};
        for (int[] row : rounds) {
            due("round(" + row[0] + ", " + row[1] + ", " + row[2] + ")", x.round(row[0], row[1], row[2]), row[3]);
        }
        due("last()", x.last(), 2);
        BitRecogniser y = grammar("aaaa", "Aaaaa");
        due("round(15, 0, 2), a HELPER", y.round(15, 0, 2), 1);
        due("round(14, 1, 4), a HELPER", y.round(14, 1, 4), 2);
        due("round(0, 0, 4)", y.round(0, 0, 4), 3);
    }

    @Sentence(promise = 0, words = "(What is there at last is what DERIVES.)")
    static void roundsAndCellsAgree() {
        Maker[] makers = {() -> doubling("aaaab"), () -> wound("abcb"), () -> grammar("abab", "AB", "BA", "Aab", "BAA")};
        for (Maker maker : makers) {
            BitRecogniser x = maker.make();
            int symbols = 14 + x.count(3);
            for (int i = 0; i < x.count(5); i++) {
                for (int j = i + 1; j <= x.count(5); j++) {
                    for (int symbol = 0; symbol < symbols; symbol++) {
                        due("cell(" + i + ", " + j + ") of " + symbol, x.cell(i, j) >> symbol & 1, x.round(symbol, i, j) == NONE ? 0 : 1);
                    }
                }
            }
        }
    }

    @Sentence(promise = 0, words = "THE ROUND of a SYMBOL and a SPAN: the first behind which it is there.")
    static void firstRoundOfSeveral() {
        BitRecogniser x = grammar("aaaa", "AaA", "Aa");
        due("round(0, 0, 4) one by one", x.round(0, 0, 4), 3);
        rule(x, "AAA");
        due("round(0, 0, 4) by halves", x.round(0, 0, 4), 2);
        rule(x, "AAaA");
        due("round(0, 0, 4) still", x.round(0, 0, 4), 2);
        rule(x, "ABB");
        rule(x, "Baa");
        due("round(0, 0, 4) by others", x.round(0, 0, 4), 2);
        BitRecogniser y = grammar("ab", "ACD", "AB", "Bab", "Ca", "Db");
        due("round(0, 0, 2) of two ways", y.round(0, 0, 2), 1);
    }

    // ---- TREES, FORMS

    @Sentence(promise = 0, words = "A TREE of a SYMBOL (A to H) over a SPAN: a RULE of it, with CUTS between its PARTS, "
            + "TREES for those that are A to H (LETTERS DERIVE theirs);")
    static void treesByRulesCutsAndParts() {
        BitRecogniser x = grammar("bcb", "ABcB", "Bb", "BD", "Db");
        due("trees(3, 0, 1) of one RULE", x.trees(3, 0, 1), 1);
        due("trees(1, 0, 1) of two RULES", x.trees(1, 0, 1), 2);
        due("trees(0, 0, 3) of two PARTS with two each", x.trees(0, 0, 3), 4);
        due("trees(0, 0, 3) of two CUTS", grammar("bbb", "ABB", "Bb", "Bbb").trees(0, 0, 3), 2);
        due("trees(0, 0, 4) of three rows of CUTS", grammar("bbbb", "ABBB", "Bb", "Bbb").trees(0, 0, 4), 3);
        due("trees(0, 0, 2) of two RULES over the same LETTERS", grammar("ab", "Aab", "AaB", "Bb").trees(0, 0, 2), 2);
        due("trees(0, 0, 5) of LETTERS alone", grammar("aaaaa", "Aaaaaa").trees(0, 0, 5), 1);
        // four UNITS from A on: B, C, B C, C B, each to one b
        due("trees(0, 0, 1) along UNITS", grammar("b", "AB", "AC", "BC", "CB", "Bb", "Cb").trees(0, 0, 1), 4);
    }

    /** bb: D D ahead of b b; cc: by E, whose RULE 6 would lead back to C. */
    private static BitRecogniser branching() {
        return grammar("bbcc", "ABC", "BDD", "Bbb", "Db", "CE", "Ccc", "EC", "Ecc");
    }

    static void checkNodes(BitRecogniser x, int[][] rows) {
        due("nodes()", x.nodes(), rows.length);
        for (int k = 0; k < rows.length; k++) {
            for (int what = 0; what < 5; what++) {
                due("node(" + k + ", " + what + ")", x.node(k, what), rows[k][what]);
            }
        }
    }

    @Sentence(promise = 0, words = "; and so on in it, from the left (along UNITS: so that no SYMBOL comes twice). Its NODES: RULES, each with its SPAN,")
    static void firstTreeAllTheWayDown() {
        checkNodes(branching(), new int[][] {{0, 0, 4, NONE, 0}, {1, 0, 2, 0, 1}, {3, 0, 1, 1, 2}, {3, 1, 2, 1, 2}, {4, 2, 4, 0, 1}, {7, 2, 4, 4, 2}});
        BitRecogniser x = branching();
        x.drop(1);
        x.drop(4);
        checkNodes(x, new int[][] {{0, 0, 4, NONE, 0}, {2, 0, 2, 0, 1}, {5, 2, 4, 0, 1}});
        // of the first PART's CUTS too the least row: b, then b b b
        checkNodes(grammar("abbbb", "AaB", "BBB", "Bb", "Bbbb"),
                new int[][] {{0, 0, 5, NONE, 0}, {1, 1, 5, 0, 1}, {2, 1, 2, 1, 2}, {1, 2, 5, 1, 2}, {2, 2, 3, 3, 3}, {1, 3, 5, 3, 3}, {2, 3, 4, 5, 4}, {2, 4, 5, 5, 4}});
    }

    @Sentence(promise = 0, words = "FORMS of THE FIRST TREE of START over THE WORD: FORM 0: START alone; "
            + "each next one has in place of the leftmost one of A to H the PARTS of its RULE in the TREE.")
    static void formsDownToTheWord() {
        int[][] forms = {{0}, {1, 2}, {3, 3, 2}, {9, 3, 2}, {9, 9, 2}, {9, 9, 4}, {9, 9, 10, 10}};
        BitRecogniser x = branching();
        for (int m = 0; m < forms.length; m++) {
            due("length(" + m + ")", x.length(m), forms[m].length);
            for (int i = 0; i < forms[m].length; i++) {
                due("form(" + m + ", " + i + ")", x.form(m, i), forms[m][i]);
            }
            due("form(" + m + ", " + forms[m].length + ")", x.form(m, forms[m].length), NONE);
        }
    }

    // ---- LEAST LENGTH, ACCEPTED

    @Sentence(promise = 0, words = "A LEAST LENGTH: of the shortest word of LETTERS that a SYMBOL could DERIVE")
    static void leastLengthOfSeveralRules() {
        BitRecogniser x = grammar("ff", "AaaaA", "ABB", "Baa", "BbbB", "CAB", "CE", "EC", "DabcdB");
        int[] least = {4, 2, 6, 6, 6, NONE, NONE, NONE, 1, 1, 1, 1, 1, 1};
        for (int symbol = 0; symbol < 14; symbol++) {
            due("least(" + symbol + ")", x.least(symbol), least[symbol]);
        }
        rule(x, "Ef");
        due("least(4) of its own", x.least(4), 1);
        due("least(2) by it", x.least(2), 1);
    }

    @Sentence(promise = 0, words = "ACCEPTED: START DERIVES the SPAN of the whole WORD")
    static void acceptedByStartAsAWhole() {
        BitRecogniser x = grammar("abab", "Aab", "BAA", "CBa");
        int[] accepted = {0, 1, 0, 0, 0, 0, 0, 0};
        for (int start = 1; start < 8; start++) {
            x.start(start);
            due("accepted() by " + start, x.accepted(), accepted[start]);
        }
        x.start(0);
        due("accepted() by 0, which has the beginning alone", x.accepted(), 0);
        word(x, "ab");
        due("accepted() of that beginning", x.accepted(), 1);
    }

    // ---- UNDONE, refused

    @Sentence(promise = 0, words = "Calls that told RULES, START, THE WORD (rule(), drop(), start(), word() that aren't refused) "
            + "can be UNDONE each as a whole, the latest first, 10 at most (eldest are forgotten): all of these.")
    static void allOfTheseComeBack() {
        BitRecogniser x = grammar("ab", "Aa", "Bb");
        x.start(1);
        x.drop(0);
        rule(x, "Caaa");
        word(x, "c");
        x.start(2);
        due("undo(4)", x.undo(4), 4);
        due("part(0, NONE)", x.part(0, NONE), 0);
        due("part(0, 0)", x.part(0, 0), 8);
        due("part(0, 1)", x.part(0, 1), NONE);
        due("count(4)", x.count(4), 1);
        due("count(5)", x.count(5), 2);
        due("cell(0, 1)", x.cell(0, 1), 0x101);
        due("cell(1, 2)", x.cell(1, 2), 0x202);
        due("undo(4)", x.undo(4), 0);
        for (int what = 0; what < 8; what++) {
            due("count(" + what + ") of all undone", x.count(what), 0);
        }
    }

    @Sentence(promise = 0, words = "Refused calls answer by a code and change nothing: -2 there is none such; -3 a number can't be; -4 too many; "
            + "-5 it can't be now; -6 it is MISSING; -7 it has no such number;")
    static void oneRefusalOfEachKind() {
        answers(NO_SUCH, "drop(2)", Boundaries::busy, x -> x.drop(2));
        answers(NO_NUMBER, "undo(0)", Boundaries::busy, x -> x.undo(0));
        answers(TOO_MANY, "rule(2)", Boundaries::crammed, x -> x.rule(2));
        answers(NOT_NOW, "start(0)", Boundaries::busy, x -> x.start(0));
        answers(NOT_MADE, "restore(0)", Boundaries::busy, x -> x.restore(0));
        answers(NO_ROOM, "number(0, 3)", Boundaries::busy, x -> x.number(0, 3));
    }
}

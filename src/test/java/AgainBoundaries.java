import java.util.LinkedHashMap;
import java.util.Map;

/** Calls asked again behind a change: they answer as those of an object that was told just so and never asked before. */
final class AgainBoundaries extends Boundaries {
    interface Teller {
        long tell(BitRecogniser x);
    }

    private static final Maker[] STATES = {BitRecogniser::new, () -> wound("abcb"), () -> doubling("aaaa"), Sample::overgrown,
        () -> grammar("ab", "AB", "BA", "Aa", "Bb", "BAB", "CABAB"), () -> startAt(grammar("ffff", "Hff", "HHf", "Hf", "AH", "Hc"), 7),
        () -> startAt(grammar("cabab", "AB", "BA", "Bab", "Ba", "CcBA"), 2)};
    private static final Teller[] CHANGES = {x -> word(x, "ab"), x -> word(x, "aabab"), x -> x.start(1), x -> x.start(3), x -> x.drop(0),
        x -> x.drop(1), x -> rule(x, "Aba"), x -> rule(x, "ABcB"), x -> rule(x, "BA"), x -> x.word(0)};

    // ---- what follows of the rules, START, the word: some 120 calls

    private static Map<String, Long> askAll(BitRecogniser x) {
        Map<String, Long> answers = new LinkedHashMap<>();
        askBinary(x, answers);
        askSpans(x, answers);
        askTrees(x, answers);
        askWords(x, answers);
        return answers;
    }

    private static void askBinary(BitRecogniser x, Map<String, Long> answers) {
        for (int what = 0; what <= 5; what++) {
            answers.put("count(" + what + ")", (long) x.count(what));
        }
        answers.put("pairs()", (long) x.pairs());
        for (int what = 0; what <= 3; what++) {
            answers.put("pair(1, " + what + ")", (long) x.pair(1, what));
        }
        answers.put("back(14, 0)", (long) x.back(14, 0));
        answers.put("back(15, 1)", (long) x.back(15, 1));
        for (int symbol = 0; symbol < 8; symbol++) {
            answers.put("units(" + symbol + ")", (long) x.units(symbol));
        }
        answers.put("rounds()", (long) x.rounds());
        int[] symbols = {0, 1, 2, 7, 14, 15};
        for (int symbol : symbols) {
            answers.put("least(" + symbol + ")", (long) x.least(symbol));
        }
        answers.put("reached(0)", (long) x.reached(0));
        answers.put("reached(1)", (long) x.reached(1));
    }

    private static void askSpans(BitRecogniser x, Map<String, Long> answers) {
        int letters = x.count(5);
        answers.put("cell(0, 1)", x.cell(0, 1));
        answers.put("cell(0, letters)", x.cell(0, letters));
        answers.put("accepted()", (long) x.accepted());
        answers.put("round(0, 0, letters)", (long) x.round(0, 0, letters));
        answers.put("round(1, 0, 2)", (long) x.round(1, 0, 2));
        answers.put("last()", (long) x.last());
        answers.put("product(0, 1, 0)", (long) x.product(0, 1, 0));
        answers.put("cuts(0, 1, 0, letters)", (long) x.cuts(0, 1, 0, letters));
        int[] symbols = {0, 1, 7, 14};
        for (int symbol : symbols) {
            answers.put("row(" + symbol + ", 0)", (long) x.row(symbol, 0));
            answers.put("spans(" + symbol + ", 0)", (long) x.spans(symbol, 0));
            answers.put("spans(" + symbol + ", 2)", (long) x.spans(symbol, 2));
        }
    }

    private static void askTrees(BitRecogniser x, Map<String, Long> answers) {
        int letters = x.count(5);
        for (int symbol = 0; symbol < 8; symbol++) {
            answers.put("trees(" + symbol + ", 0, letters)", x.trees(symbol, 0, letters));
        }
        for (int what = 0; what <= 2; what++) {
            answers.put("doubtful(" + what + ")", (long) x.doubtful(what));
        }
        answers.put("nodes()", (long) x.nodes());
        for (int k = 0; k < 4; k++) {
            answers.put("node(" + k + ", 0)", (long) x.node(k, 0));
            answers.put("node(" + k + ", 2)", (long) x.node(k, 2));
        }
        answers.put("tree(1, NONE, 0)", (long) x.tree(1, NONE, 0));
        answers.put("tree(1, 1, 0)", (long) x.tree(1, 1, 0));
        answers.put("loss(0)", (long) x.loss(0));
        answers.put("loss(1)", (long) x.loss(1));
        answers.put("length(1)", (long) x.length(1));
        answers.put("form(1, 0)", (long) x.form(1, 0));
        answers.put("form(2, 1)", (long) x.form(2, 1));
    }

    private static void askWords(BitRecogniser x, Map<String, Long> answers) {
        answers.put("beginnings()", (long) x.beginnings());
        for (int i = NONE; i < 2; i++) {
            answers.put("pieces(" + i + ")", (long) x.pieces(i));
        }
        answers.put("turned()", (long) x.turned());
        answers.put("viable()", (long) x.viable());
        answers.put("next()", (long) x.next());
        answers.put("lengths(0)", (long) x.lengths(0));
        answers.put("lengths(1)", (long) x.lengths(1));
        answers.put("shapes(0, 3)", x.shapes(0, 3));
        answers.put("shapes(1, 2)", x.shapes(1, 2));
        answers.put("changes()", (long) x.changes());
        answers.put("changed(0)", (long) x.changed(0));
        answers.put("changed(1)", (long) x.changed(1));
        for (int n = 1; n <= 4; n++) {
            answers.put("words(" + n + ")", (long) x.words(n));
            answers.put("first(" + n + ", 0)", (long) x.first(n, 0));
        }
    }

    // ---- behind one change

    private static void checkChanges(int from, int to) {
        for (int s = 0; s < STATES.length; s++) {
            for (int c = from; c <= to; c++) {
                BitRecogniser x = STATES[s].make();
                askAll(x);
                CHANGES[c].tell(x);
                BitRecogniser fresh = STATES[s].make();
                CHANGES[c].tell(fresh);
                dueAlike("state " + s + ", change " + c, askAll(x), askAll(fresh));
            }
        }
    }

    @Sentence(promise = 4, words = "They are THE WORD (alike, too)")
    static void askedAgainBehindWord() {
        checkChanges(0, 1);
        checkChanges(9, 9);
    }

    @Sentence(promise = 7, words = "START is a SYMBOL (0 to 7)")
    static void askedAgainBehindStart() {
        checkChanges(2, 3);
    }

    @Sentence(promise = 6, words = "A RULE is no more")
    static void askedAgainBehindDrop() {
        checkChanges(4, 5);
    }

    @Sentence(promise = 3, words = "its number, the lowest that is free")
    static void askedAgainBehindRule() {
        checkChanges(6, 8);
    }

    // ---- behind what goes back

    /** Each change made and taken back by a call, then, unless further is 0, another one made. */
    private static void checkGoingBack(Teller ahead, Teller back, int further) {
        for (int s = 0; s < STATES.length; s++) {
            for (int c = 0; c < CHANGES.length; c++) {
                BitRecogniser x = STATES[s].make();
                ahead.tell(x);
                if (CHANGES[c].tell(x) < 0) {
                    continue;
                }
                askAll(x);
                back.tell(x);
                BitRecogniser fresh = STATES[s].make();
                int other = (c + further) % CHANGES.length;
                if (further > 0) {
                    CHANGES[other].tell(x);
                    CHANGES[other].tell(fresh);
                }
                dueAlike("state " + s + ", change " + c + " taken back, then " + other, askAll(x), askAll(fresh));
            }
        }
    }

    @Sentence(promise = 46, words = "n calls (1 to 10) are UNDONE")
    static void askedAgainBehindUndo() {
        checkGoingBack(x -> 0, x -> x.undo(1), 0);
    }

    @Sentence(promise = 46, words = "n calls (1 to 10) are UNDONE")
    static void askedAgainBehindUndoAndAnotherChange() {
        checkGoingBack(x -> 0, x -> x.undo(1), 3);
    }

    @Sentence(promise = 48, words = "All that is in an IMAGE is as it was: 0.")
    static void askedAgainBehindRestore() {
        checkGoingBack(x -> x.image(0), x -> x.restore(0), 0);
    }

    @Sentence(promise = 48, words = "All that is in an IMAGE is as it was: 0.")
    static void askedAgainBehindRestoreAndAnotherChange() {
        checkGoingBack(x -> x.image(1), x -> x.restore(1), 7);
    }
}

/** Boundary cases of promises 9 to 15: binary. */
final class BinaryBoundaries extends Boundaries {
    private static final String[] RING_OF_EIGHT = {"AB", "BC", "CD", "DE", "EF", "FG", "GH", "HA"};

    // ---- Promise 9: pairs

    @Sentence(promise = 9, words = "How many PAIRS there are.")
    static void fewestAndMostPairs() {
        due("pairs() of no RULES", new BitRecogniser().pairs(), 0);
        due("pairs() of UNITS", grammar("", RING_OF_EIGHT).pairs(), 0);
        due("pairs() of two PARTS", grammar("", "AAA").pairs(), 1);
        due("pairs() of sixteen RULES of five PARTS", crammed().pairs(), 64);
    }

    // ---- Promise 10: pair

    @Sentence(promise = 10, words = "Of a PAIR, what 0: its SYMBOL, 1, 2: the two it is from, 3: its RULE.")
    static void firstAndLastPair() {
        int[] first = {0, 8, 14, 0};
        int[] last = {61, 11, 11, 15};
        BitRecogniser x = crammed();
        for (int what = 0; what < 4; what++) {
            due("pair(0, " + what + ")", x.pair(0, what), first[what]);
            due("pair(63, " + what + ")", x.pair(63, what), last[what]);
        }
    }

    @Sentence(promise = 10, words = "-2.")
    static void pairThatIsNotThere() {
        bounds(NO_SUCH, "pair, i", 0, 63, Boundaries::crammed, (x, i) -> x.pair(i, 0));
        bounds(NO_SUCH, "pair, i", 0, 5, Boundaries::busy, (x, i) -> x.pair(i, 3));
        bounds(NO_SUCH, "pair, what", 0, 3, Boundaries::busy, (x, what) -> x.pair(5, what));
        each(NO_SUCH, "pair of no RULES, i", new int[] {-1, 0, 1}, BitRecogniser::new, (x, i) -> x.pair(i, 0));
    }

    // ---- Promise 11: back

    @Sentence(promise = 11, words = "1: the place (PARTS counted from 0: 1 and on) of the first PART that it stands for.")
    static void firstAndLastHelper() {
        BitRecogniser x = crammed();
        due("back(14, 0)", x.back(14, 0), 0);
        due("back(14, 1)", x.back(14, 1), 1);
        due("back(61, 0)", x.back(61, 0), 15);
        due("back(61, 1)", x.back(61, 1), 3);
    }

    @Sentence(promise = 11, words = "-2: there is no such HELPER, what.")
    static void helperThatIsNotThere() {
        bounds(NO_SUCH, "back, x", 14, 61, Boundaries::crammed, (x, helper) -> x.back(helper, 0));
        bounds(NO_SUCH, "back, x", 14, 16, Boundaries::busy, (x, helper) -> x.back(helper, 1));
        bounds(NO_SUCH, "back, what", 0, 1, Boundaries::busy, (x, what) -> x.back(16, what));
        each(NO_SUCH, "back of no RULES, x", new int[] {0, 8, 13, 14, 61}, BitRecogniser::new, (x, helper) -> x.back(helper, 0));
        each(NO_SUCH, "back of PAIRS alone, x", new int[] {13, 14}, () -> doubling("a"), (x, helper) -> x.back(helper, 0));
    }

    // ---- Promise 12: units

    @Sentence(promise = 12, words = "SYMBOLS 0 to 13 to which UNITS lead from one of 0 to 7, step by step, and it, as bits.")
    static void unitsToNoneAndToAll() {
        BitRecogniser x = new BitRecogniser();
        BitRecogniser y = grammar("", "AB", "BC", "CD", "DE", "EF", "FG", "GH", "Ha", "Hb", "Hc", "Hd", "He", "Hf");
        BitRecogniser z = grammar("", RING_OF_EIGHT);
        for (int name = 0; name < 8; name++) {
            due("units(" + name + ") of no RULES", x.units(name), 1 << name);
            due("units(" + name + ") of a way through all", y.units(name), 0x3F00 | 0xFF & 0xFF << name);
            due("units(" + name + ") of a ring", z.units(name), 0xFF);
        }
        due("units(0) where no UNIT is", grammar("", "AAA", "Abb").units(0), 1);
        due("units(2) onto itself", grammar("", "CC").units(2), 4);
    }

    @Sentence(promise = 12, words = "-2.")
    static void unitsOfOtherSymbols() {
        bounds(NO_SUCH, "units", 0, 7, Boundaries::busy, BitRecogniser::units);
        each(NO_SUCH, "units", new int[] {13, 14, 61}, Boundaries::crammed, BitRecogniser::units);
    }

    // ---- Promise 13: rounds

    @Sentence(promise = 13, words = "by one step at least, to themselves, as bits.")
    static void roundsOfNoneOfOneStepAndOfEight() {
        due("rounds() of no RULES", new BitRecogniser().rounds(), 0);
        due("rounds() of one step", grammar("", "HH").rounds(), 1 << 7);
        due("rounds() of eight steps", grammar("", RING_OF_EIGHT).rounds(), 0xFF);
        due("rounds() of seven of eight", grammar("", "AB", "BC", "CD", "DE", "EF", "FG", "GH").rounds(), 0);
        due("rounds() of two RULES that are no UNITS", grammar("", "AAA", "AAb", "ABA").rounds(), 0);
        due("rounds() of what leads into a round", grammar("", "AB", "BB").rounds(), 2);
    }

    // ---- Promise 14: least

    @Sentence(promise = 14, words = "The LEAST LENGTH of a SYMBOL (HELPERS, too).")
    static void leastAndGreatestLeastLength() {
        BitRecogniser x = grammar("", "ABBBBB", "BCCCCC", "CDDDDD", "DEEEEE", "EFFFFF", "FGGGGG", "GHHHHH", "Haaaaa");
        due("least(0) of five to the eighth", x.least(0), 390625);
        due("least(7)", x.least(7), 5);
        due("least(14), its first HELPER", x.least(14), 312500);
        due("least(37), the last HELPER", x.least(37), 2);
        due("least(8), a LETTER", x.least(8), 1);
        due("least(13), a LETTER", x.least(13), 1);
        due("least(0) of a UNIT", grammar("", "Aa").least(0), 1);
        due("least(61)", crammed().least(61), 2);
    }

    @Sentence(promise = 14, words = "NONE: it has none")
    static void leastLengthOfWhatNeverEnds() {
        each(NONE, "least of no RULES", new int[] {0, 7}, BitRecogniser::new, BitRecogniser::least);
        each(NONE, "least of what never ends", new int[] {0, 1, 2, 14}, () -> grammar("", "AB", "BA", "CaAb"), BitRecogniser::least);
        each(NONE, "least of what has no RULE", new int[] {4, 5, 6}, Boundaries::busy, BitRecogniser::least);
    }

    @Sentence(promise = 14, words = "-2.")
    static void leastLengthOfNoSymbol() {
        bounds(NO_SUCH, "least", 0, 13, BitRecogniser::new, BitRecogniser::least);
        bounds(NO_SUCH, "least", 0, 16, Boundaries::busy, BitRecogniser::least);
        bounds(NO_SUCH, "least", 0, 61, Boundaries::crammed, BitRecogniser::least);
    }

    // ---- Promise 15: reached

    @Sentence(promise = 15, words = "could have (START, too), as bits")
    static void reachedIsStartAtLeastAndAllAtMost() {
        for (int start = 0; start < 8; start++) {
            due("reached(0) of no RULES", startAt(new BitRecogniser(), start).reached(0), 1 << start);
            due("reached(0) of a ring", startAt(grammar("", RING_OF_EIGHT), start).reached(0), 0xFF);
        }
        due("reached(0) of LETTERS alone", grammar("", "Aabcde").reached(0), 1);
        due("reached(0) by a fifth PART", grammar("", "AaaaaH").reached(0), 0x81);
    }

    @Sentence(promise = 15, words = "1: those of them that have a LEAST LENGTH.")
    static void reachedWithALeastLength() {
        due("reached(1) of no RULES", new BitRecogniser().reached(1), 0);
        due("reached(1) of a ring", grammar("", RING_OF_EIGHT).reached(1), 0);
        // A itself never ends, as C doesn't; B does
        due("reached(1) of what START needs in vain", grammar("", "ABC", "Bb", "Db").reached(1), 2);
        due("reached(1) of all", grammar("", "AB", "BC", "CD", "DE", "EF", "FG", "GH", "Ha").reached(1), 0xFF);
    }

    @Sentence(promise = 15, words = "-2.")
    static void reachedOfOthers() {
        bounds(NO_SUCH, "reached", 0, 1, Boundaries::busy, BitRecogniser::reached);
    }
}

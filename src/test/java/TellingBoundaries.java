/** Boundary cases of promises 1 to 8: rules, the word. */
final class TellingBoundaries extends Boundaries {
    private static final int[] NO_RULE_NUMBERS = {-1, 16, LEAST_INT, GREATEST_INT};

    // ---- Promise 1: A new object

    @Sentence(promise = 1, words = "No RULES.")
    static void newObjectHasNoRules() {
        BitRecogniser x = new BitRecogniser();
        for (int what = 0; what <= 7; what++) {
            due("count(" + what + ")", x.count(what), 0);
        }
        for (int r = 0; r < 16; r++) {
            due("part(" + r + ", NONE)", x.part(r, NONE), NO_SUCH);
            due("loss(" + r + ")", x.loss(r), NO_SUCH);
        }
        due("pairs()", x.pairs(), 0);
        due("last()", x.last(), NONE);
        due("nodes()", x.nodes(), 0);
        due("viable()", x.viable(), 0);
        due("changes()", x.changes(), NONE);
    }

    @Sentence(promise = 1, words = "No RULES.")
    static void objectsDoNotShareWhatTheyHold() {
        BitRecogniser first = busy();
        BitRecogniser second = new BitRecogniser();
        due("count(0) of another one", second.count(0), 0);
        due("number(0, 0) of another one", second.number(0, 0), NOT_MADE);
        due("restore(1) of another one", second.restore(1), NOT_MADE);
        due("fault(0) of another one", second.fault(0), 0);
        rule(second, "Gf");
        due("count(0) of the first one", first.count(0), 6);
    }

    // ---- Promise 2: feed

    @Sentence(promise = 2, words = "Twenty bytes come behind those on THE TAPE, the highest of each int first")
    static void theHighestByteOfEachIntIsFirst() {
        BitRecogniser x = new BitRecogniser();
        due("feed", x.feed(0x61626364, 0x65666162, 0x63646566, 0x61620000, 0), 20);
        due("word(14)", x.word(14), 14);
        for (int i = 0; i < 14; i++) {
            due("cell(" + i + ", " + (i + 1) + ")", x.cell(i, i + 1), 1L << (8 + i % 6));
        }
    }

    @Sentence(promise = 2, words = "Twenty bytes come behind those on THE TAPE, the highest of each int first")
    static void theLeastAndTheGreatestIntAreBytesToo() {
        BitRecogniser x = new BitRecogniser();
        due("feed of the least ints", x.feed(LEAST_INT, LEAST_INT, LEAST_INT, LEAST_INT, LEAST_INT), 20);
        due("feed of the greatest ints", x.feed(GREATEST_INT, GREATEST_INT, GREATEST_INT, GREATEST_INT, GREATEST_INT), 40);
        due("word(14)", x.word(14), -31);
        due("fault(1)", x.fault(1), 0);
        // the bytes 97, 127 (of 0x617fffff) and 128 (of 0x61618000)
        x.feed(0x617FFFFF, GREATEST_INT, 0, 0, 0);
        due("word(2) of 97, 127", x.word(2), -31);
        due("fault(1)", x.fault(1), 1);
        x.feed(0x61618000, LEAST_INT, 0, 0, 0);
        due("word(3) of 97, 97, 128", x.word(3), -31);
        due("fault(1)", x.fault(1), 2);
    }

    @Sentence(promise = 2, words = "Twenty bytes come behind those on THE TAPE, the highest of each int first")
    static void laterBytesComeBehindEarlierOnes() {
        BitRecogniser x = new BitRecogniser();
        feed(x, "bcd");
        due("feed of others", feed(x, "Aef"), 40);
        due("word(3)", x.word(3), 3);
        due("cell(0, 1)", x.cell(0, 1), 1L << 9);
        due("cell(2, 3)", x.cell(2, 3), 1L << 11);
        feed(x, "Aef");
        due("word(1) of the next bytes", x.word(1), -31);
    }

    @Sentence(promise = 2, words = "how many it has")
    static void tapeOfNoneTwentyAndFortyBytes() {
        BitRecogniser x = new BitRecogniser();
        due("count(7)", x.count(7), 0);
        due("feed", x.feed(0, 0, 0, 0, 0), 20);
        due("count(7)", x.count(7), 20);
        due("feed", x.feed(-1, -1, -1, -1, -1), 40);
        due("count(7)", x.count(7), 40);
    }

    @Sentence(promise = 2, words = "-4: it would have more than 40.")
    static void tapeOfMoreThanFortyBytes() {
        answers(TOO_MANY, "feed onto 40 bytes", TellingBoundaries::fortyBytes, x -> x.feed(0x62620000, 0, 0, 0, 0));
        answers(TOO_MANY, "feed of the least ints", TellingBoundaries::fortyBytes,
                x -> x.feed(LEAST_INT, LEAST_INT, LEAST_INT, LEAST_INT, LEAST_INT));
        answers(TOO_MANY, "feed where all places are taken", Boundaries::crammed, x -> x.feed(0, 0, 0, 0, 0));
        BitRecogniser x = fortyBytes();
        x.feed(0x62620000, 0, 0, 0, 0);
        due("the first bytes stay", x.word(3), 3);
        due("cell(0, 1)", x.cell(0, 1), 1L << 8);
        due("feed onto an empty tape again", x.feed(0, 0, 0, 0, 0), 20);
    }

    private static BitRecogniser fortyBytes() {
        BitRecogniser x = new BitRecogniser();
        feed(x, "abc");
        feed(x, "def");
        return x;
    }

    // ---- Promise 3: rule

    @Sentence(promise = 3, words = "The first n bytes of THE TAPE (which is empty then) are a RULE")
    static void tapeIsEmptyBehindRule() {
        BitRecogniser x = new BitRecogniser();
        feed(x, "Aabbb");
        feed(x, "Bc");
        due("rule(2) of forty bytes", x.rule(2), 0);
        due("part(0, 0)", x.part(0, 0), 8);
        due("part(0, 1)", x.part(0, 1), NONE);
        due("count(7)", x.count(7), 0);
        due("rule(2) of none", x.rule(2), NO_NUMBER);
        due("count(0)", x.count(0), 1);
    }

    @Sentence(promise = 3, words = "one of \"A\" to \"H\"")
    static void firstByteIsAToH() {
        BitRecogniser x = new BitRecogniser();
        due("rule Ab", rule(x, "Ab"), 0);
        due("its SYMBOL", x.part(0, NONE), 0);
        due("rule Hb", rule(x, "Hb"), 1);
        due("its SYMBOL", x.part(1, NONE), 7);
        String[] others = {"@b", "Ib", "ab", "fb", "`b", "gb", "\u0000b", "\u00ffb", "\u00c1b"};
        for (String text : others) {
            faulty(1, 0, "rule of " + text, BitRecogniser::new, y -> rule(y, text));
        }
    }

    @Sentence(promise = 3, words = "1 to 5 of \"A\" to \"H\", \"a\" to \"f\"")
    static void partsAreAToHAndLettersAToF() {
        BitRecogniser x = new BitRecogniser();
        due("rule BAHaf", rule(x, "BAHaf"), 0);
        int[] parts = {1, 0, 7, 8, 13, NONE};
        for (int i = 0; i < parts.length; i++) {
            due("part(0, " + (i - 1) + ")", x.part(0, i - 1), parts[i]);
        }
        char[] others = {'@', 'I', '`', 'g', 0, 255, 'A' + 128, 'a' + 128};
        for (char other : others) {
            faulty(1, 1, "rule of B and " + (int) other, BitRecogniser::new, y -> rule(y, "B" + other));
            faulty(1, 5, "rule of Baaaa and " + (int) other, BitRecogniser::new, y -> rule(y, "Baaaa" + other));
        }
    }

    @Sentence(promise = 3, words = "1 to 5 of \"A\" to \"H\", \"a\" to \"f\"")
    static void onePartAndFiveParts() {
        BitRecogniser x = new BitRecogniser();
        due("rule of one PART", rule(x, "Hf"), 0);
        due("rule of five PARTS", rule(x, "HHHHHH"), 1);
        due("its last PART", x.part(1, 4), 7);
        due("the one behind it", x.part(1, 5), NONE);
        due("rule of none", rule(x, "H"), -32);
        due("rule of six", rule(x, "Haaaaaa"), -33);
        due("count(0)", x.count(0), 2);
    }

    @Sentence(promise = 3, words = "its number, the lowest that is free")
    static void lowestFreeNumber() {
        BitRecogniser x = full();
        int[] dropped = {15, 0, 7, 8};
        for (int r : dropped) {
            x.drop(r);
        }
        String[] texts = {"Ba", "Bb", "Bc", "Bd"};
        int[] numbers = {0, 7, 8, 15};
        for (int k = 0; k < texts.length; k++) {
            due("rule " + texts[k], rule(x, texts[k]), numbers[k]);
        }
        due("rule of a 17th", rule(x, "Be"), TOO_MANY);
    }

    @Sentence(promise = 3, words = "-3: n is below 0, above what there is (THE TAPE stays)")
    static void ruleOfMoreThanThereIs() {
        each(NO_NUMBER, "rule on an empty tape", new int[] {-1, 1, 2, 40, LEAST_INT, GREATEST_INT}, BitRecogniser::new, BitRecogniser::rule);
        each(NO_NUMBER, "rule on 20 bytes", new int[] {-1, 21, 40, LEAST_INT, GREATEST_INT}, Boundaries::busy, BitRecogniser::rule);
        each(NO_NUMBER, "rule on 40 bytes", new int[] {-1, 41, LEAST_INT, GREATEST_INT}, TellingBoundaries::fortyBytes, BitRecogniser::rule);
    }

    @Sentence(promise = 3, words = "-3: n is below 0, above what there is (THE TAPE stays)")
    static void ruleOfNoneAndOfAllThereIs() {
        faulty(2, 0, "rule(0) of 20 bytes", Boundaries::busy, x -> x.rule(0));
        faulty(1, 2, "rule(20) of 20 bytes", Boundaries::busy, x -> x.rule(20));
        faulty(1, 0, "rule(40) of 40 bytes", TellingBoundaries::fortyBytes, x -> x.rule(40));
    }

    @Sentence(promise = 3, words = "-4: there are 16 (so)")
    static void ruleWhereThereAreSixteen() {
        // a good one, one alike, one of no byte, one of too many: each is one too many first, and THE TAPE stays
        each(TOO_MANY, "rule", new int[] {0, 1, 2, 6, 40}, Boundaries::crammed, BitRecogniser::rule);
        BitRecogniser x = crammed();
        due("rule(2)", x.rule(2), TOO_MANY);
        x.drop(11);
        due("rule(2) of the same bytes", x.rule(2), 11);
        due("count(0)", x.count(0), 16);
    }

    @Sentence(promise = 3, words = "1 a byte that can't stand there")
    static void byteThatCannotStandInARule() {
        String good = "Aabcde";
        for (int place = 0; place < 6; place++) {
            int at = place;
            String text = good.substring(0, place) + "Z" + good.substring(place + 1);
            faulty(1, at, "rule of " + text, TellingBoundaries::busyOnAnEmptyTape, x -> rule(x, text));
        }
    }

    @Sentence(promise = 3, words = "2 they end ahead of the second one (its place: n)")
    static void ruleThatEndsTooSoon() {
        faulty(2, 0, "rule(0) of an empty tape", BitRecogniser::new, x -> x.rule(0));
        faulty(2, 0, "rule(0) of a good text", Boundaries::busy, x -> x.rule(0));
        faulty(2, 1, "rule(1) of a good text", Boundaries::busy, x -> x.rule(1));
        faulty(1, 0, "rule(1) of a byte that can't stand there", BitRecogniser::new, x -> rule(x, "Z"));
        due("rule(2)", busy().rule(2), 2);
    }

    @Sentence(promise = 3, words = "3 a seventh one (whatever it is)")
    static void ruleOfSevenBytes() {
        String[] texts = {"Aabcdea", "AabcdeA", "AabcdeZ", "Aabcde\u0000", "Aabcdefffffff"};
        for (String text : texts) {
            faulty(3, 6, "rule of " + text, BitRecogniser::new, x -> rule(x, text));
        }
        due("rule of six", rule(new BitRecogniser(), "Aabcde"), 0);
        BitRecogniser x = new BitRecogniser();
        feed(x, "Aabcde");
        feed(x, "");
        due("rule of forty", x.rule(40), -33);
    }

    @Sentence(promise = 3, words = "-30 less the FAULT, the first along the bytes")
    static void firstFaultAlongTheBytes() {
        faulty(1, 5, "a bad sixth byte ahead of a seventh", BitRecogniser::new, x -> rule(x, "AaaaaZa"));
        faulty(1, 0, "a bad first byte ahead of a seventh", BitRecogniser::new, x -> rule(x, "aAaaaaa"));
        faulty(1, 1, "the first of two bad ones", BitRecogniser::new, x -> rule(x, "AZaZ"));
        faulty(1, 0, "a bad one that ends too soon", BitRecogniser::new, x -> rule(x, "a"));
    }

    @Sentence(promise = 3, words = "-5: there is one alike (THE TAPE is empty then)")
    static void ruleThatIsAlike() {
        Change[] changes = {then("count(7)", 0), then("fault(0)", 0), then("fault(1)", NONE)};
        answers(NOT_NOW, "rule of one alike", TellingBoundaries::busyWithOneAlike, x -> x.rule(2), changes);
        answers(NOT_NOW, "rule of the longest alike", () -> startAt(grammar("a", "AaBcB", "Haaaaa"), 3), x -> rule(x, "Haaaaa"), changes);
        BitRecogniser x = grammar("", "Aa", "Aab");
        due("one with a PART more", rule(x, "Aabc"), 2);
        due("one with a SYMBOL that is another", rule(x, "Ba"), 3);
        x.drop(0);
        due("the one that was dropped", rule(x, "Aa"), 0);
        due("and again", rule(x, "Aa"), NOT_NOW);
    }

    private static BitRecogniser busyOnAnEmptyTape() {
        BitRecogniser x = busy();
        x.rule(0);
        return x;
    }

    private static BitRecogniser busyWithOneAlike() {
        BitRecogniser x = busyOnAnEmptyTape();
        feed(x, "Ha");
        return x;
    }

    // ---- Promise 4: word

    @Sentence(promise = 4, words = "They are THE WORD (alike, too)")
    static void wordThatIsAlike() {
        BitRecogniser x = wound("abcb");
        due("count(6)", x.count(6), 6);
        due("word(4)", word(x, "abcb"), 4);
        due("count(6)", x.count(6), 7);
        due("count(7)", x.count(7), 0);
        due("accepted()", x.accepted(), 1);
        due("word(0)", x.word(0), 0);
        due("word(0) alike", x.word(0), 0);
        due("count(6)", x.count(6), 9);
    }

    @Sentence(promise = 4, words = "\"a\" to \"f\" each: n.")
    static void lettersAToF() {
        BitRecogniser x = new BitRecogniser();
        due("word af", word(x, "af"), 2);
        due("cell(0, 1)", x.cell(0, 1), 1L << 8);
        due("cell(1, 2)", x.cell(1, 2), 1L << 13);
        char[] others = {'`', 'g', 'A', 'H', 0, 255, 'a' + 128};
        for (char other : others) {
            faulty(1, 0, "word of " + (int) other, BitRecogniser::new, y -> word(y, "" + other));
            faulty(1, 13, "word of thirteen letters and " + (int) other, BitRecogniser::new, y -> word(y, "fffffffffffff" + other));
        }
    }

    @Sentence(promise = 4, words = "\"a\" to \"f\" each: n.")
    static void wordOfNoneAndOfFourteenLetters() {
        BitRecogniser x = doubling("aa");
        due("word of fourteen", word(x, LONGEST), 14);
        due("count(5)", x.count(5), 14);
        due("accepted()", x.accepted(), 1);
        feed(x, "aaaa");
        due("word of none, with bytes on the tape", x.word(0), 0);
        due("count(5)", x.count(5), 0);
        due("count(7)", x.count(7), 0);
        due("accepted()", x.accepted(), 0);
    }

    @Sentence(promise = 4, words = "-3: n is below 0, above what there is (THE TAPE stays)")
    static void wordOfMoreThanThereIs() {
        each(NO_NUMBER, "word on an empty tape", new int[] {-1, 1, 14, 40, LEAST_INT, GREATEST_INT}, BitRecogniser::new, BitRecogniser::word);
        each(NO_NUMBER, "word on 20 bytes", new int[] {-1, 21, 40, LEAST_INT, GREATEST_INT}, Boundaries::busy, BitRecogniser::word);
        each(NO_NUMBER, "word on 40 bytes", new int[] {-1, 41, LEAST_INT, GREATEST_INT}, Boundaries::crammed, BitRecogniser::word);
    }

    @Sentence(promise = 4, words = "-3: n is below 0, above what there is (THE TAPE stays)")
    static void wordOfAllThereIs() {
        faulty(1, 0, "word(20) of 20 bytes", Boundaries::busy, x -> x.word(20));
        faulty(1, 3, "word(40) of 40 bytes", TellingBoundaries::fortyBytes, x -> x.word(40));
    }

    @Sentence(promise = 4, words = "-31: a byte that can't stand there")
    static void byteThatCannotStandInAWord() {
        for (int place = 0; place < 14; place++) {
            int at = place;
            String text = LONGEST.substring(0, place) + "A" + LONGEST.substring(place + 1);
            faulty(1, at, "word of " + text, TellingBoundaries::busyOnAnEmptyTape, x -> word(x, text));
        }
    }

    @Sentence(promise = 4, words = "-33: a 15th one, whatever it is")
    static void wordOfFifteenBytes() {
        String[] texts = {LONGEST + "a", LONGEST + "A", LONGEST + "Z", LONGEST + "\u0000", LONGEST + "abcde"};
        for (String text : texts) {
            faulty(3, 14, "word of " + text, TellingBoundaries::busyOnAnEmptyTape, x -> word(x, text));
        }
        due("word of fourteen", word(new BitRecogniser(), LONGEST), 14);
    }

    @Sentence(promise = 4, words = "(the first of these along the bytes)")
    static void firstFaultAlongTheLetters() {
        faulty(1, 13, "a bad fourteenth byte ahead of a fifteenth", BitRecogniser::new, x -> word(x, "aaaaaaaaaaaaaZa"));
        faulty(1, 0, "a bad first byte ahead of a fifteenth", BitRecogniser::new, x -> word(x, "A" + LONGEST));
        faulty(1, 2, "the first of two bad ones", BitRecogniser::new, x -> word(x, "aaZaZ"));
    }

    // ---- Promise 5: fault

    @Sentence(promise = 5, words = "Of the latest rule(), word() that emptied THE TAPE")
    static void faultOfTheLatestThatEmptiedTheTape() {
        BitRecogniser x = new BitRecogniser();
        checkFault(x, 0, NONE);
        rule(x, "AaZ");
        checkFault(x, 1, 2);
        feed(x, "Ba");
        x.rule(-1);
        x.rule(21);
        x.word(LEAST_INT);
        x.word(GREATEST_INT);
        checkFault(x, 1, 2);
        x.rule(2);
        checkFault(x, 0, NONE);
        word(x, LONGEST + "a");
        checkFault(x, 3, 14);
        rule(x, "Ba");
        checkFault(x, 0, NONE);
        BitRecogniser y = full();
        word(y, "aZ");
        feed(y, "Ba");
        due("rule(2)", y.rule(2), TOO_MANY);
        checkFault(y, 1, 1);
    }

    private static void checkFault(BitRecogniser x, int fault, int place) {
        due("fault(0)", x.fault(0), fault);
        due("fault(1)", x.fault(1), place);
    }

    @Sentence(promise = 5, words = "(be it of no byte)")
    static void faultOfNoByte() {
        BitRecogniser x = new BitRecogniser();
        due("rule(0) of an empty tape", x.rule(0), -32);
        checkFault(x, 2, 0);
        due("word(0) of an empty tape", x.word(0), 0);
        checkFault(x, 0, NONE);
    }

    @Sentence(promise = 5, words = "what 0: its FAULT (0), 1: its place (NONE)")
    static void faultAndPlaceWhereThereIsNone() {
        answers(NONE, "fault(1) of a new object", BitRecogniser::new, x -> x.fault(1));
        answers(0, "fault(0) of a new object", BitRecogniser::new, x -> x.fault(0));
        BitRecogniser x = grammar("a", "Aa");
        checkFault(x, 0, NONE);
        x.rule(0);
        x.drop(0);
        x.undo(1);
        x.start(1);
        x.image(0);
        x.restore(0);
        checkFault(x, 2, 0);
    }

    @Sentence(promise = 5, words = "NONE for others.")
    static void faultOfOthers() {
        each(NONE, "fault", new int[] {-1, 2, 3, LEAST_INT, GREATEST_INT}, Boundaries::busy, BitRecogniser::fault);
    }

    // ---- Promise 6: drop

    @Sentence(promise = 6, words = "A RULE is no more: how many there are.")
    static void dropOfTheFirstTheLastAndTheOnlyOne() {
        BitRecogniser x = full();
        due("drop(15)", x.drop(15), 15);
        due("drop(0)", x.drop(0), 14);
        due("count(1)", x.count(1), 0x7FFE);
        for (int r = 1; r < 15; r++) {
            due("drop(" + r + ")", x.drop(r), 14 - r);
        }
        due("count(0)", x.count(0), 0);
        due("pairs()", x.pairs(), 0);
    }

    @Sentence(promise = 6, words = "-2.")
    static void dropOfWhatIsNoRule() {
        each(NO_SUCH, "drop", new int[] {2, 7, 15}, Boundaries::busy, BitRecogniser::drop);
        each(NO_SUCH, "drop", NO_RULE_NUMBERS, Boundaries::crammed, BitRecogniser::drop);
        each(NO_SUCH, "drop", new int[] {0, 15}, BitRecogniser::new, BitRecogniser::drop);
    }

    // ---- Promise 7: start

    @Sentence(promise = 7, words = "START is a SYMBOL (0 to 7): the one that was.")
    static void startOfTheFirstAndTheLastSymbol() {
        BitRecogniser x = new BitRecogniser();
        due("start(7)", x.start(7), 0);
        due("start(0)", x.start(0), 7);
        due("count(4)", x.count(4), 0);
        bounds(NO_SUCH, "start", 0, 7, () -> startAt(busy(), 3), BitRecogniser::start);
    }

    @Sentence(promise = 7, words = "-2; -5: it is it.")
    static void startThatIsIt() {
        answers(NOT_NOW, "start(0) of a new object", BitRecogniser::new, x -> x.start(0));
        answers(NOT_NOW, "start(7)", () -> startAt(busy(), 7), x -> x.start(7));
        each(NO_SUCH, "start", new int[] {8, 13, 14}, Boundaries::busy, BitRecogniser::start);
    }

    // ---- Promise 8: part

    @Sentence(promise = 8, words = "Of a RULE its SYMBOL (i NONE), or its i-th PART.")
    static void partsOfTheFirstAndTheLastRule() {
        BitRecogniser x = full();
        int[] first = {0, 8, 8, 8, 8, 8};
        int[] last = {0, 8, 8, 8, 11, 11};
        for (int i = NONE; i < 5; i++) {
            due("part(0, " + i + ")", x.part(0, i), first[i + 1]);
            due("part(15, " + i + ")", x.part(15, i), last[i + 1]);
        }
    }

    @Sentence(promise = 8, words = "NONE: not so many")
    static void partBehindTheLast() {
        each(NONE, "part of five", new int[] {5, 6, GREATEST_INT}, Boundaries::crammed, (x, i) -> x.part(15, i));
        each(NONE, "part of one", new int[] {1, 4, 5, GREATEST_INT}, Boundaries::busy, (x, i) -> x.part(6, i));
    }

    @Sentence(promise = 8, words = "-2;")
    static void partOfWhatIsNoRule() {
        each(NO_SUCH, "part", NO_RULE_NUMBERS, Boundaries::crammed, (x, r) -> x.part(r, 0));
        each(NO_SUCH, "part", new int[] {2, 7, 15}, Boundaries::busy, (x, r) -> x.part(r, NONE));
    }

    @Sentence(promise = 8, words = "-3: i is below NONE.")
    static void partBelowNone() {
        each(NO_NUMBER, "part", new int[] {-2, -3, LEAST_INT}, Boundaries::busy, (x, i) -> x.part(0, i));
    }
}

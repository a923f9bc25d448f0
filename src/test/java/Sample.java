/** What tests tell the class: texts as bytes on the tape, and the grammars that several tests ask about. */
abstract class Sample {
    static final int NONE = BitRecogniser.NONE;
    static final int LEAST_INT = Integer.MIN_VALUE;
    static final int GREATEST_INT = Integer.MAX_VALUE;
    static final String LONGEST = "aaaaaaaaaaaaaa";

    static int four(String text, int from) {
        int four = 0;
        for (int p = from; p < from + 4; p++) {
            four = four << 8 | (p < text.length() ? text.charAt(p) & 255 : 0);
        }
        return four;
    }

    static int feed(BitRecogniser x, String text) {
        return x.feed(four(text, 0), four(text, 4), four(text, 8), four(text, 12), four(text, 16));
    }

    static int rule(BitRecogniser x, String text) {
        feed(x, text);
        return x.rule(text.length());
    }

    static int word(BitRecogniser x, String text) {
        feed(x, text);
        return x.word(text.length());
    }

    static BitRecogniser grammar(String word, String... rules) {
        BitRecogniser x = new BitRecogniser();
        for (String rule : rules) {
            rule(x, rule);
        }
        word(x, word);
        return x;
    }

    /** A aBcB; B C; C B; C b; B bb. */
    static BitRecogniser wound(String word) {
        return grammar(word, "AaBcB", "BC", "CB", "Cb", "Bbb");
    }

    static BitRecogniser doubling(String word) {
        return grammar(word, "AAA", "Aa");
    }

    /** Sixteen rules of five parts: 48 helpers. */
    static BitRecogniser full() {
        BitRecogniser x = new BitRecogniser();
        for (int r = 0; r < 16; r++) {
            rule(x, "Aaaa" + "abcd".charAt(r / 4) + "abcd".charAt(r % 4));
        }
        return x;
    }

    /** Sixteen rules that lead from nearly each one to each: far more than 2^63 trees over fourteen letters. */
    static BitRecogniser overgrown() {
        return grammar(LONGEST, "Aa", "Ba", "Ca", "AAA", "AAB", "ABA", "ABB", "BAA", "BAB", "BBA", "AB", "BC", "CA", "AC", "CB", "BA");
    }

    /** H over the whole word has 9,223,372,036,854,775,807 trees; its six rules were found by a search. */
    static BitRecogniser greatest() {
        return startAt(grammar("aaabaaaaaabbaa", "AC", "AE", "BAA", "BEE", "Ba", "Bb", "CB", "Ca", "EB", "EC",
                "HAaBC", "HBEABC", "HCCBEC", "HEEBEa", "HEBCBa", "HEEaBa"), 7);
    }

    /** H over the whole word has 9,223,372,036,854,775,808 trees, one too many to tell. */
    static BitRecogniser oneTooMany() {
        return startAt(grammar("aabaaaabaaaaaa", "AB", "Aa", "BCC", "BDD", "Ba", "Bb", "CA", "CB", "DA", "DC",
                "HBBCDD", "HCbaC", "HADBaB", "HDbBAC", "HBABCa", "HDBbAA"), 7);
    }

    static BitRecogniser startAt(BitRecogniser x, int start) {
        x.start(start);
        return x;
    }
}

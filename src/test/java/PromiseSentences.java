import java.util.ArrayList;
import java.util.HashSet;
import java.util.List;
import java.util.Set;

/** What the promises say of ordinary cases and of the order of their answers; the other ..Boundaries have the edges. */
final class PromiseSentences extends Boundaries {
    // ---- binary

    @Sentence(promise = 11, words = "The way back: of a HELPER, what 0: its RULE, 1: the place (PARTS counted from 0: 1 and on) of the first PART that it stands for.")
    static void helpersStandForTheRestOfTheirRules() {
        BitRecogniser x = grammar("", "HabcdA", "Aa", "BAHaf", "Cfff", "Db", "DHb");
        due("count(3)", x.count(3), 3 + 2 + 1);
        for (int i = 0; i < x.pairs(); i++) {
            int made = x.pair(i, 0);
            int rule = x.pair(i, 3);
            int place = 0;
            if (made >= 14) {
                due("back(" + made + ", 0)", x.back(made, 0), rule);
                place = x.back(made, 1);
            } else {
                due("pair(" + i + ", 0)", made, x.part(rule, NONE));
            }
            due("pair(" + i + ", 1), the part at " + place, x.pair(i, 1), x.part(rule, place));
            due("least(" + made + ")", x.least(made), leastFrom(x, rule, place));
        }
    }

    private static int leastFrom(BitRecogniser x, int rule, int place) {
        int sum = 0;
        for (int i = place; x.part(rule, i) != NONE; i++) {
            sum += x.least(x.part(rule, i));
        }
        // D has a shorter one than D from H b
        return x.part(rule, NONE) == 3 ? 1 : sum;
    }

    @Sentence(promise = 13, words = "Those of A to H from which UNITS lead, by one step at least, to themselves, as bits.")
    static void roundsOfSome() {
        // B, C in a round, F alone; A and D lead into it, G has two PARTS
        due("rounds()", grammar("", "AB", "BC", "CB", "DA", "Ea", "FF", "GGb").rounds(), 0x26);
    }

    @Sentence(promise = 15, words = "Those of A to H that a tree of RULES from START could have (START, too), as bits, what 0: all, "
            + "1: those of them that have a LEAST LENGTH.")
    static void reachedFromEachStart() {
        BitRecogniser x = grammar("", "ABc", "BCC", "Ca", "CDd", "EA", "FG");
        int[] all = {0xF, 0xE, 0xC, 8, 0x1F, 0x60, 0x40, 0x80};
        int[] ending = {7, 6, 4, 0, 0x17, 0, 0, 0};
        for (int start = 0; start < 8; start++) {
            x.start(start);
            due("reached(0) from " + start, x.reached(0), all[start]);
            due("reached(1) from " + start, x.reached(1), ending[start]);
        }
    }

    // ---- spans

    @Sentence(promise = 20, words = "Places j such that x, y DERIVE the two parts of the SPAN from i to j for some CUT, as bits.")
    static void productsOfTwo() {
        BitRecogniser x = grammar("aabab", "Aa", "Ab", "Aaa", "Bab");
        int[][] products = {{0, 1, 0, 1 << 3}, {0, 1, 1, 0}, {0, 1, 2, 1 << 5}, {1, 1, 1, 1 << 5}, {1, 0, 1, 1 << 4}, {0, 0, 0, 1 << 2 | 1 << 3},
            {8, 9, 0, 0}, {8, 9, 1, 1 << 3}, {1, 9, 0, 0}};
        for (int[] row : products) {
            due("product(" + row[0] + ", " + row[1] + ", " + row[2] + ")", x.product(row[0], row[1], row[2]), row[3]);
        }
    }

    // ---- trees

    @Sentence(promise = 25, words = ", what 0: the SYMBOL, 1: from where, 2: to where.")
    static void doubtInTheMiddle() {
        BitRecogniser x = grammar("baab", "CDD", "Da", "CE", "Eaa", "Ab");
        due("doubtful(0)", x.doubtful(0), 2);
        due("doubtful(1)", x.doubtful(1), 1);
        due("doubtful(2)", x.doubtful(2), 3);
    }

    @Sentence(promise = 27, words = "Of NODE k, what 0: its RULE, 1: from where, 2: to where its SPAN goes, 3: the NODE above it (NONE), 4: how many are above it.")
    static void rowsOfNodes() {
        TermsSentences.checkNodes(wound("abbcb"), new int[][] {{0, 0, 5, NONE, 0}, {4, 1, 3, 0, 1}, {1, 4, 5, 0, 1}, {3, 4, 5, 2, 2}});
    }

    /** A tree as its nodes tell it: the rule, its span, for each part that is one of A to H the tree below. */
    record Tree(int rule, int from, int to, List<Tree> parts) {
        /** By the number of the rule, then by the row of its cuts, then by the first part's tree, then by the next one's. */
        int against(Tree other, BitRecogniser x) {
            if (rule != other.rule) {
                return Integer.compare(rule, other.rule);
            }
            List<Integer> ends = ends(x);
            List<Integer> otherEnds = other.ends(x);
            for (int i = 0; i < ends.size(); i++) {
                if (!ends.get(i).equals(otherEnds.get(i))) {
                    return Integer.compare(ends.get(i), otherEnds.get(i));
                }
            }
            for (int i = 0; i < parts.size(); i++) {
                int order = parts.get(i).against(other.parts.get(i), x);
                if (order != 0) {
                    return order;
                }
            }
            return 0;
        }

        /** Where each part ends; letters take one place. */
        private List<Integer> ends(BitRecogniser x) {
            List<Integer> ends = new ArrayList<>();
            int at = from;
            int below = 0;
            for (int i = 0; x.part(rule, i) != NONE; i++) {
                if (x.part(rule, i) < 8) {
                    due("where a part begins", below < parts.size() ? parts.get(below).from : NONE, at);
                    at = below < parts.size() ? parts.get(below).to : at;
                    below++;
                } else {
                    at++;
                }
                ends.add(at);
            }
            due("parts that are A to H", below, parts.size());
            due("where the last part ends", at, to);
            return ends;
        }
    }

    /** Each node of tree m, put below the one that it names. */
    private static Tree readTree(Maker maker, int m) {
        BitRecogniser x = maker.make();
        int nodes = x.tree(m, NONE, 0);
        List<Tree> all = new ArrayList<>();
        for (int k = 0; k < nodes; k++) {
            Tree tree = new Tree(x.tree(m, k, 0), x.tree(m, k, 1), x.tree(m, k, 2), new ArrayList<>());
            int above = x.tree(m, k, 3);
            int depth = 0;
            for (int up = above; up != NONE; up = x.tree(m, up, 3)) {
                depth++;
            }
            due("tree(" + m + ", " + k + ", 4)", x.tree(m, k, 4), depth);
            if (above != NONE) {
                all.get(above).parts.add(tree);
            }
            all.add(tree);
        }
        return all.get(0);
    }

    /** Each part's rule is one of its own, its letters are those of the word, along units no symbol comes twice. */
    private static void checkTree(Tree tree, int symbol, int barred, String text, BitRecogniser x) {
        due("whose rule " + tree.rule + " is", x.part(tree.rule, NONE), symbol);
        due("comes twice along units", barred >> symbol & 1, 0);
        boolean unit = x.part(tree.rule, 1) == NONE;
        List<Integer> ends = tree.ends(x);
        int below = 0;
        for (int i = 0; i < ends.size(); i++) {
            int part = x.part(tree.rule, i);
            if (part < 8) {
                checkTree(tree.parts.get(below), part, unit ? barred | 1 << symbol : 0, text, x);
                below++;
            } else {
                due("the letter ahead of " + ends.get(i), text.charAt(ends.get(i) - 1), "abcdef".charAt(part - 8));
            }
        }
    }

    private static void checkOrder(int many, String text, String... rules) {
        Maker maker = () -> grammar(text, rules);
        due("trees of " + text, maker.make().trees(0, 0, text.length()), many);
        due("the one behind the last", maker.make().tree(many, NONE, 0), NO_NUMBER);
        Set<Tree> unlike = new HashSet<>();
        Tree before = null;
        for (int m = 0; m < many; m++) {
            Tree tree = readTree(maker, m);
            checkTree(tree, 0, 0, text, maker.make());
            unlike.add(tree);
            if (before != null) {
                due("tree " + (m - 1) + " is ahead of tree " + m, before.against(tree, maker.make()) < 0 ? 1 : 0, 1);
            }
            before = tree;
        }
        due("unlike trees", unlike.size(), many);
    }

    @Sentence(promise = 28, words = "TREES of START over THE WORD in order: by the number of the RULE, then by the row of its CUTS, "
            + "then by the TREE of its first PART that is one of A to H (by this order), then by that of the next one, and so on, numbered from 0 (THE FIRST)")
    static void treesInOrder() {
        checkOrder(1, "abcb", "AaBcB", "BC", "CB", "Cb", "Bbb");
        checkOrder(14, "aaaaa", "AAA", "Aa");
        // B over each a: a itself, by C, by D and C
        checkOrder(27, "aaa", "ABBB", "Ba", "BC", "BD", "Ca", "DC", "DB");
        // three rows of CUTS, two for each a alone
        checkOrder(48, "aaaa", "ABBB", "Ba", "BC", "BBB", "Ca");
    }

    @Sentence(promise = 28, words = "TREES of START over THE WORD in order: by the number of the RULE, then by the row of its CUTS, "
            + "then by the TREE of its first PART that is one of A to H (by this order), then by that of the next one, and so on, numbered from 0 (THE FIRST)")
    static void treesInOrderAlongUnits() {
        checkOrder(5, "a", "AB", "AC", "Aa", "BC", "BA", "Ba", "CB", "Ca");
        // A over aa by B or by A A, over aaa by A A alone
        checkOrder(4, "aaa", "AB", "BA", "AAA", "Aa", "Baa");
        checkOrder(12, "aaaa", "AB", "BA", "AAA", "Aa", "Baa");
    }

    // ---- words

    @Sentence(promise = 35, words = "1, if START could DERIVE some word that begins with THE WORD (or is it), else 0.")
    static void viableFromEachStart() {
        String[] texts = {"", "a", "b", "bb", "bbb", "ab"};
        int[] starts = {0x87, 0x81, 0x86, 6, 0, 0x81};
        for (int t = 0; t < texts.length; t++) {
            BitRecogniser x = wound(texts[t]);
            rule(x, "HA");
            rule(x, "Ha");
            rule(x, "Hb");
            rule(x, "GaG");
            for (int start = 7; start >= 0; start--) {
                x.start(start);
                due("viable() of " + texts[t] + " from " + start, x.viable(), starts[t] >> start & 1);
            }
        }
    }

    @Sentence(promise = 36, words = "LETTERS (bits 8 to 13) such that this were so of THE WORD with that LETTER behind it.")
    static void eachNextLetter() {
        for (int letter = 0; letter < 6; letter++) {
            String sign = "abcdef".substring(letter, letter + 1);
            due("next() of " + sign, grammar("", "A" + sign).next(), 256 << letter);
            due("next() behind d of " + sign, grammar("d", "Ad" + sign + "a").next(), 256 << letter);
        }
        due("next() of some", grammar("ab", "ABC", "Ba", "Bab", "Cbf", "Cd", "Ccd").next(), 1 << 13 | 1 << 11 | 1 << 10 | 1 << 9);
    }
}

import java.math.BigInteger;
import java.util.ArrayDeque;
import java.util.ArrayList;
import java.util.Arrays;
import java.util.Collections;
import java.util.HashMap;
import java.util.HashSet;
import java.util.List;
import java.util.Map;
import java.util.Set;
import java.util.TreeSet;

/**
 * The document's answers by the slowest plain means: sets, lists and texts, the rules themselves where the
 * class takes its pairs. UNTOLD: too dear to find out in this way, so any answer passes.
 */
final class Oracle {
    static final long UNTOLD = Long.MIN_VALUE;
    private static final String SIGNS = "ABCDEFGHabcdef";
    private static final BigInteger LONG_MAX = BigInteger.valueOf(Long.MAX_VALUE);
    private static final int LISTED_MOST = 400;
    private static final int SET_MOST = 3000;

    /** A rule, a span, where its node's parent stands, how deep it is. */
    record Node(int rule, int from, int to, int above, int depth) { }

    record Pair(int made, int left, int right, int rule) { }

    record State(String[] rules, int start, String word) {
        State copy() {
            return new State(rules.clone(), start, word);
        }
    }

    private State now = new State(new String[16], 0, "");
    private final ArrayDeque<State> past = new ArrayDeque<>();
    private final State[] images = new State[2];
    private final long[][] trays = new long[3][];
    private List<Integer> tape = new ArrayList<>();
    private int fault = 0;
    private int faultPlace = -1;

    // what is found once for a state
    private List<Pair> pairs;
    private List<int[]> helpers;
    private Map<String, Integer> rounds;
    private final Map<String, BigInteger> counts = new HashMap<>();
    private final Map<String, BigInteger> shapeCounts = new HashMap<>();
    private final Map<String, Set<String>> languages = new HashMap<>();
    private final Map<Integer, List<Node>> treeCache = new HashMap<>();

    Oracle() {
        forget();
    }

    private void forget() {
        pairs = null;
        helpers = null;
        rounds = null;
        counts.clear();
        shapeCounts.clear();
        languages.clear();
        treeCache.clear();
    }

    private void change(State next) {
        past.addLast(now);
        if (past.size() > 10) {
            past.removeFirst();
        }
        now = next;
        forget();
    }

    // ---- rules, the word

    long feed(int... fours) {
        if (tape.size() + 20 > 40) {
            return -4;
        }
        for (int four : fours) {
            for (int k = 3; k >= 0; k--) {
                tape.add((four >> (8 * k)) & 0xFF);
            }
        }
        return tape.size();
    }

    private List<Integer> takeTape(int n) {
        List<Integer> taken = new ArrayList<>(tape.subList(0, n));
        tape = new ArrayList<>();
        fault = 0;
        faultPlace = -1;
        return taken;
    }

    private long fail(int kind, int place) {
        fault = kind;
        faultPlace = place;
        return -30 - kind;
    }

    long rule(int n) {
        if (n < 0 || n > tape.size()) {
            return -3;
        }
        int free = Arrays.asList(now.rules).indexOf(null);
        if (free < 0) {
            return -4;
        }
        StringBuilder text = new StringBuilder();
        List<Integer> taken = takeTape(n);
        for (int p = 0; p < taken.size(); p++) {
            int b = taken.get(p);
            if (p == 6) {
                return fail(3, 6);
            }
            boolean name = b >= 65 && b <= 72;
            boolean letter = b >= 97 && b <= 102;
            if (!(name || letter && p > 0)) {
                return fail(1, p);
            }
            text.append((char) b);
        }
        if (n < 2) {
            return fail(2, n);
        }
        if (Arrays.asList(now.rules).contains(text.toString())) {
            return -5;
        }
        State next = now.copy();
        next.rules[free] = text.toString();
        change(next);
        return free;
    }

    long word(int n) {
        if (n < 0 || n > tape.size()) {
            return -3;
        }
        StringBuilder text = new StringBuilder();
        List<Integer> taken = takeTape(n);
        for (int p = 0; p < taken.size(); p++) {
            int b = taken.get(p);
            if (p == 14) {
                return fail(3, 14);
            }
            if (b < 97 || b > 102) {
                return fail(1, p);
            }
            text.append((char) b);
        }
        change(new State(now.rules.clone(), now.start, text.toString()));
        return n;
    }

    long fault(int what) {
        return what == 0 ? fault : what == 1 ? faultPlace : -1;
    }

    private boolean isRule(int r) {
        return r >= 0 && r < 16 && now.rules[r] != null;
    }

    long drop(int r) {
        if (!isRule(r)) {
            return -2;
        }
        State next = now.copy();
        next.rules[r] = null;
        change(next);
        return count(0);
    }

    long start(int x) {
        if (x < 0 || x > 7) {
            return -2;
        }
        if (x == now.start) {
            return -5;
        }
        int before = now.start;
        change(new State(now.rules.clone(), x, now.word));
        return before;
    }

    long part(int r, int i) {
        if (!isRule(r)) {
            return -2;
        }
        if (i < -1) {
            return -3;
        }
        return i < now.rules[r].length() - 1 ? sign(now.rules[r], i + 1) : -1;
    }

    private static int sign(String text, int place) {
        return SIGNS.indexOf(text.charAt(place));
    }

    // ---- binary

    private void makeBinary() {
        if (pairs != null) {
            return;
        }
        pairs = new ArrayList<>();
        helpers = new ArrayList<>();
        for (int r = 0; r < 16; r++) {
            String rule = now.rules[r];
            if (rule == null || rule.length() < 3) {
                continue;
            }
            int n = rule.length() - 1;
            int[] made = new int[n - 1];
            made[0] = sign(rule, 0);
            for (int h = 1; h <= n - 2; h++) {
                made[h] = 14 + helpers.size();
                helpers.add(new int[] {r, h});
            }
            for (int q = 0; q < n - 1; q++) {
                int right = q == n - 2 ? sign(rule, n) : made[q + 1];
                pairs.add(new Pair(made[q], sign(rule, q + 1), right, r));
            }
        }
    }

    private int symbols() {
        makeBinary();
        return 14 + helpers.size();
    }

    private boolean isSymbol(int x) {
        return x >= 0 && x < symbols();
    }

    long pairs() {
        makeBinary();
        return pairs.size();
    }

    long pair(int i, int what) {
        makeBinary();
        if (i < 0 || i >= pairs.size() || what < 0 || what > 3) {
            return -2;
        }
        Pair p = pairs.get(i);
        return new int[] {p.made, p.left, p.right, p.rule}[what];
    }

    long back(int x, int what) {
        if (x < 14 || !isSymbol(x) || what < 0 || what > 1) {
            return -2;
        }
        return helpers.get(x - 14)[what];
    }

    /** By one step at least. */
    private Set<Integer> unitsFrom(int x) {
        Set<Integer> found = new TreeSet<>();
        ArrayDeque<Integer> open = new ArrayDeque<>();
        open.add(x);
        while (!open.isEmpty()) {
            int y = open.remove();
            for (String rule : now.rules) {
                if (rule != null && rule.length() == 2 && sign(rule, 0) == y && found.add(sign(rule, 1))) {
                    open.add(sign(rule, 1));
                }
            }
        }
        return found;
    }

    long units(int x) {
        if (x < 0 || x > 7) {
            return -2;
        }
        long bits = 1L << x;
        for (int y : unitsFrom(x)) {
            bits |= 1L << y;
        }
        return bits;
    }

    long rounds() {
        long bits = 0;
        for (int x = 0; x < 8; x++) {
            if (unitsFrom(x).contains(x)) {
                bits |= 1L << x;
            }
        }
        return bits;
    }

    /** Of A to H and letters, along the rules themselves. */
    private int[] leastOfRules() {
        int[] least = new int[14];
        for (int x = 0; x < 14; x++) {
            least[x] = x < 8 ? -1 : 1;
        }
        for (int again = 0; again < 20; again++) {
            for (String rule : now.rules) {
                if (rule == null) {
                    continue;
                }
                int sum = sumOfLeast(rule, 1, least);
                int x = sign(rule, 0);
                if (sum >= 0 && (least[x] < 0 || sum < least[x])) {
                    least[x] = sum;
                }
            }
        }
        return least;
    }

    private static int sumOfLeast(String rule, int from, int[] least) {
        int sum = 0;
        for (int p = from; p < rule.length(); p++) {
            int part = least[sign(rule, p)];
            if (part < 0) {
                return -1;
            }
            sum += part;
        }
        return sum;
    }

    long least(int x) {
        if (!isSymbol(x)) {
            return -2;
        }
        int[] least = leastOfRules();
        if (x < 14) {
            return least[x];
        }
        int[] helper = helpers.get(x - 14);
        return sumOfLeast(now.rules[helper[0]], helper[1] + 1, least);
    }

    long reached(int what) {
        if (what < 0 || what > 1) {
            return -2;
        }
        Set<Integer> found = new TreeSet<>();
        found.add(now.start);
        for (int again = 0; again < 10; again++) {
            for (String rule : now.rules) {
                if (rule != null && found.contains(sign(rule, 0))) {
                    for (int p = 1; p < rule.length(); p++) {
                        found.add(sign(rule, p));
                    }
                }
            }
        }
        long bits = 0;
        for (int x : found) {
            if (x < 8 && (what == 0 || leastOfRules()[x] >= 0)) {
                bits |= 1L << x;
            }
        }
        return bits;
    }

    // ---- spans

    private static String key(int x, int i, int j) {
        return x + ":" + i + ":" + j;
    }

    /** The rounds as the document tells them, one behind the other. */
    private Map<String, Integer> roundsOf(String text) {
        makeBinary();
        Map<String, Integer> found = new HashMap<>();
        for (int i = 0; i < text.length(); i++) {
            found.put(key(sign(text, i), i, i + 1), 0);
        }
        addUnits(found, text.length(), 0);
        for (int round = 1; round < 30; round++) {
            Map<String, Integer> next = new HashMap<>(found);
            for (int i = 0; i < text.length(); i++) {
                for (int j = i + 2; j <= text.length(); j++) {
                    for (Pair p : pairs) {
                        for (int k = i + 1; k < j; k++) {
                            if (found.containsKey(key(p.left, i, k)) && found.containsKey(key(p.right, k, j))) {
                                next.putIfAbsent(key(p.made, i, j), round);
                            }
                        }
                    }
                }
            }
            addUnits(next, text.length(), round);
            if (next.size() == found.size()) {
                break;
            }
            found = next;
        }
        return found;
    }

    private void addUnits(Map<String, Integer> found, int n, int round) {
        for (int again = 0; again < 8; again++) {
            for (String rule : now.rules) {
                if (rule == null || rule.length() != 2) {
                    continue;
                }
                for (int i = 0; i < n; i++) {
                    for (int j = i + 1; j <= n; j++) {
                        if (found.containsKey(key(sign(rule, 1), i, j))) {
                            found.putIfAbsent(key(sign(rule, 0), i, j), round);
                        }
                    }
                }
            }
        }
    }

    private boolean derives(int x, int i, int j) {
        if (rounds == null) {
            rounds = roundsOf(now.word);
        }
        return rounds.containsKey(key(x, i, j));
    }

    private int n() {
        return now.word.length();
    }

    private boolean isSpan(int i, int j) {
        return i >= 0 && i < j && j <= n();
    }

    private boolean isPlace(int i) {
        return i >= 0 && i <= n();
    }

    long cell(int i, int j) {
        if (!isSpan(i, j)) {
            return -2;
        }
        long bits = 0;
        for (int x = 0; x < symbols(); x++) {
            if (derives(x, i, j)) {
                bits |= 1L << x;
            }
        }
        return bits;
    }

    long accepted() {
        return derives(now.start, 0, n()) ? 1 : 0;
    }

    long round(int x, int i, int j) {
        if (!isSymbol(x) || !isSpan(i, j)) {
            return -2;
        }
        return derives(x, i, j) ? rounds.get(key(x, i, j)) : -1;
    }

    long last() {
        derives(0, 0, 0);
        return rounds.isEmpty() ? -1 : Collections.max(rounds.values());
    }

    long product(int x, int y, int i) {
        if (!isSymbol(x) || !isSymbol(y) || !isPlace(i)) {
            return -2;
        }
        long bits = 0;
        for (int j = i + 1; j <= n(); j++) {
            if (cuts(x, y, i, j) > 0) {
                bits |= 1L << j;
            }
        }
        return bits;
    }

    long cuts(int x, int y, int i, int j) {
        if (!isSymbol(x) || !isSymbol(y) || !isSpan(i, j)) {
            return -2;
        }
        int many = 0;
        for (int k = i + 1; k < j; k++) {
            many += derives(x, i, k) && derives(y, k, j) ? 1 : 0;
        }
        return many;
    }

    long row(int x, int i) {
        if (!isSymbol(x) || !isPlace(i)) {
            return -2;
        }
        long bits = 0;
        for (int j = i + 1; j <= n(); j++) {
            if (derives(x, i, j)) {
                bits |= 1L << j;
            }
        }
        return bits;
    }

    long spans(int x, int what) {
        if (!isSymbol(x) || what < 0 || what > 2) {
            return -2;
        }
        int many = 0;
        int longest = 0;
        int begin = -1;
        for (int i = 0; i < n(); i++) {
            for (int j = i + 1; j <= n(); j++) {
                if (derives(x, i, j)) {
                    many++;
                    if (j - i > longest) {
                        longest = j - i;
                        begin = i;
                    }
                }
            }
        }
        return what == 0 ? many : what == 1 ? longest : begin;
    }

    // ---- trees

    /** Trees of one of A to H (by a rule of it) or of a letter (one). */
    private BigInteger countOf(int x, int i, int j, int barred) {
        if (x >= 8) {
            return j - i == 1 && sign(now.word, i) == x ? BigInteger.ONE : BigInteger.ZERO;
        }
        String key = key(x, i, j) + ":" + barred;
        BigInteger known = counts.get(key);
        if (known != null) {
            return known;
        }
        BigInteger sum = BigInteger.ZERO;
        for (int r = 0; r < 16; r++) {
            if (isRule(r) && sign(now.rules[r], 0) == x) {
                sum = sum.add(countOfRule(r, i, j, barred | 1 << x));
            }
        }
        counts.put(key, sum);
        return sum;
    }

    private BigInteger countOfRule(int r, int i, int j, int barred) {
        String rule = now.rules[r];
        if (rule.length() == 2) {
            int y = sign(rule, 1);
            return y < 8 && (barred >> y & 1) != 0 ? BigInteger.ZERO : countOf(y, i, j, barred);
        }
        return countOfRest(r, 1, i, j);
    }

    /** Of the parts from the p-th on, over a span. */
    private BigInteger countOfRest(int r, int p, int i, int j) {
        String rule = now.rules[r];
        if (p == rule.length() - 1) {
            return i < j ? countOf(sign(rule, p), i, j, 0) : BigInteger.ZERO;
        }
        String key = "rest" + r + ":" + p + ":" + i + ":" + j;
        BigInteger known = counts.get(key);
        if (known != null) {
            return known;
        }
        BigInteger sum = BigInteger.ZERO;
        for (int k = i + 1; k < j; k++) {
            sum = sum.add(countOf(sign(rule, p), i, k, 0).multiply(countOfRest(r, p + 1, k, j)));
        }
        counts.put(key, sum);
        return sum;
    }

    private static long toldOr7(BigInteger many) {
        return many.compareTo(LONG_MAX) > 0 ? -7 : many.longValueExact();
    }

    long trees(int x, int i, int j) {
        if (x < 0 || x > 7 || !isSpan(i, j)) {
            return -2;
        }
        return toldOr7(countOf(x, i, j, 0));
    }

    long doubtful(int what) {
        if (what < 0 || what > 2) {
            return -2;
        }
        int[] found = null;
        for (int size = 1; size <= n(); size++) {
            for (int i = 0; i + size <= n(); i++) {
                for (int x = 0; x < 8; x++) {
                    long many = trees(x, i, i + size);
                    if (many == -7) {
                        return -7;
                    }
                    if (many >= 2 && found == null) {
                        found = new int[] {x, i, i + size};
                    }
                }
            }
        }
        return found == null ? -1 : found[what];
    }

    private static List<int[]> cutRows(int parts, int i, int j) {
        List<int[]> rows = new ArrayList<>();
        addCutRows(rows, new int[parts + 1], 0, parts, i, j);
        return rows;
    }

    private static void addCutRows(List<int[]> rows, int[] row, int p, int parts, int from, int to) {
        row[p] = from;
        if (p == parts - 1) {
            if (from < to) {
                row[parts] = to;
                rows.add(row.clone());
            }
            return;
        }
        for (int k = from + 1; k < to; k++) {
            addCutRows(rows, row, p + 1, parts, k, to);
        }
    }

    /** All trees in order, each as its rules and spans ahead of one another; only where they are few. */
    private List<List<Node>> listOf(int x, int i, int j, int barred) {
        List<List<Node>> all = new ArrayList<>();
        if (x >= 8) {
            if (countOf(x, i, j, 0).signum() > 0) {
                all.add(new ArrayList<>());
            }
            return all;
        }
        for (int r = 0; r < 16; r++) {
            if (!isRule(r) || sign(now.rules[r], 0) != x) {
                continue;
            }
            String rule = now.rules[r];
            int passed = barred | 1 << x;
            if (rule.length() == 2) {
                int y = sign(rule, 1);
                if (y >= 8 || (passed >> y & 1) == 0) {
                    for (List<Node> below : listOf(y, i, j, passed)) {
                        all.add(under(new Node(r, i, j, -1, 0), List.of(below)));
                    }
                }
                continue;
            }
            for (int[] cuts : cutRows(rule.length() - 1, i, j)) {
                addProducts(all, new Node(r, i, j, -1, 0), rule, cuts, 0, new ArrayList<>());
            }
        }
        return all;
    }

    private void addProducts(List<List<Node>> all, Node top, String rule, int[] cuts, int p, List<List<Node>> chosen) {
        if (p == rule.length() - 1) {
            all.add(under(top, chosen));
            return;
        }
        for (int q = p; q < rule.length() - 1; q++) {
            if (countOf(sign(rule, q + 1), cuts[q], cuts[q + 1], 0).signum() == 0) {
                return;
            }
        }
        for (List<Node> below : listOf(sign(rule, p + 1), cuts[p], cuts[p + 1], 0)) {
            chosen.add(below);
            addProducts(all, top, rule, cuts, p + 1, chosen);
            chosen.remove(chosen.size() - 1);
        }
    }

    private static List<Node> under(Node top, List<List<Node>> parts) {
        List<Node> tree = new ArrayList<>();
        tree.add(top);
        for (List<Node> part : parts) {
            int shift = tree.size();
            for (Node node : part) {
                int above = node.above < 0 ? 0 : node.above + shift;
                tree.add(new Node(node.rule, node.from, node.to, above, node.depth + 1));
            }
        }
        return tree;
    }

    /** Tree m among more than can be listed: all rows of cuts are gone through in order. */
    private List<Node> pick(int x, int i, int j, int barred, BigInteger m) {
        for (int r = 0; r < 16; r++) {
            if (!isRule(r) || sign(now.rules[r], 0) != x) {
                continue;
            }
            BigInteger many = countOfRule(r, i, j, barred | 1 << x);
            if (m.compareTo(many) >= 0) {
                m = m.subtract(many);
                continue;
            }
            String rule = now.rules[r];
            Node top = new Node(r, i, j, -1, 0);
            if (rule.length() == 2) {
                int y = sign(rule, 1);
                return under(top, y >= 8 ? List.of() : List.of(pick(y, i, j, barred | 1 << x, m)));
            }
            for (int[] cuts : cutRows(rule.length() - 1, i, j)) {
                BigInteger here = BigInteger.ONE;
                for (int p = 0; p < rule.length() - 1; p++) {
                    here = here.multiply(countOf(sign(rule, p + 1), cuts[p], cuts[p + 1], 0));
                }
                if (m.compareTo(here) >= 0) {
                    m = m.subtract(here);
                    continue;
                }
                List<List<Node>> parts = new ArrayList<>();
                for (int p = 0; p < rule.length() - 1; p++) {
                    BigInteger own = countOf(sign(rule, p + 1), cuts[p], cuts[p + 1], 0);
                    here = here.divide(own);
                    BigInteger rank = m.divide(here);
                    m = m.mod(here);
                    if (sign(rule, p + 1) < 8) {
                        parts.add(pick(sign(rule, p + 1), cuts[p], cuts[p + 1], 0, rank));
                    }
                }
                return under(top, parts);
            }
        }
        throw new IllegalStateException("no such tree");
    }

    private BigInteger treesOfWord() {
        return n() == 0 ? BigInteger.ZERO : countOf(now.start, 0, n(), 0);
    }

    private List<Node> treeAt(int m) {
        List<Node> known = treeCache.get(m);
        if (known != null) {
            return known;
        }
        List<Node> tree;
        if (treesOfWord().compareTo(BigInteger.valueOf(LISTED_MOST)) <= 0) {
            List<List<Node>> all = listOf(now.start, 0, n(), 0);
            if (all.size() != treesOfWord().intValueExact()) {
                throw new IllegalStateException("counted and listed trees differ");
            }
            tree = all.get(m);
        } else {
            tree = pick(now.start, 0, n(), 0, BigInteger.valueOf(m));
        }
        treeCache.put(m, tree);
        return tree;
    }

    private List<Node> firstTree() {
        return treesOfWord().signum() == 0 ? null : treeAt(0);
    }

    long nodes() {
        return firstTree() == null ? 0 : firstTree().size();
    }

    private static long tell(List<Node> tree, int k, int what) {
        if (tree == null || k < 0 || k >= tree.size() || what < 0 || what > 4) {
            return -2;
        }
        Node node = tree.get(k);
        return new int[] {node.rule, node.from, node.to, node.above, node.depth}[what];
    }

    long node(int k, int what) {
        return tell(firstTree(), k, what);
    }

    long tree(int m, int k, int what) {
        if (toldOr7(treesOfWord()) == -7) {
            return -7;
        }
        if (m < 0 || BigInteger.valueOf(m).compareTo(treesOfWord()) >= 0) {
            return -3;
        }
        if (k == -1) {
            return what < 0 || what > 4 ? -2 : treeAt(m).size();
        }
        return tell(treeAt(m), k, what);
    }

    long loss(int r) {
        if (!isRule(r)) {
            return -2;
        }
        int with = 0;
        for (int x = 0; x < 8; x++) {
            with += (int) spans(x, 0);
        }
        Oracle other = new Oracle();
        other.now = now.copy();
        other.now.rules[r] = null;
        int without = 0;
        for (int x = 0; x < 8; x++) {
            without += (int) other.spans(x, 0);
        }
        return with - without;
    }

    private List<Integer> formAt(int m) {
        List<Integer> form = new ArrayList<>(List.of(now.start));
        for (int k = 0; k < m; k++) {
            int place = 0;
            while (form.get(place) >= 8) {
                place++;
            }
            String rule = now.rules[firstTree().get(k).rule];
            if (sign(rule, 0) != form.remove(place)) {
                throw new IllegalStateException("the leftmost one is another");
            }
            for (int p = 1; p < rule.length(); p++) {
                form.add(place + p - 1, sign(rule, p));
            }
        }
        return form;
    }

    long form(int m, int i) {
        if (firstTree() == null || m < 0 || m > firstTree().size()) {
            return -2;
        }
        if (i < 0) {
            return -3;
        }
        List<Integer> form = formAt(m);
        return i < form.size() ? form.get(i) : -1;
    }

    long length(int m) {
        if (firstTree() == null || m < 0 || m > firstTree().size()) {
            return -2;
        }
        return formAt(m).size();
    }

    // ---- words

    long beginnings() {
        long bits = 0;
        for (int j = 1; j <= n(); j++) {
            if (derives(now.start, 0, j)) {
                bits |= 1L << j;
            }
        }
        return bits;
    }

    long pieces(int i) {
        if (i < -1) {
            return -3;
        }
        List<Integer> best = null;
        for (int inner = 0; n() > 0 && inner < 1 << (n() - 1); inner++) {
            List<Integer> ends = new ArrayList<>();
            int from = 0;
            boolean fits = true;
            for (int j = 1; j <= n() && fits; j++) {
                if (j == n() || (inner >> (j - 1) & 1) != 0) {
                    fits = derives(now.start, from, j);
                    ends.add(j);
                    from = j;
                }
            }
            if (fits && (best == null || ends.size() < best.size()
                    || ends.size() == best.size() && lessRow(ends, best))) {
                best = ends;
            }
        }
        if (best == null) {
            return -1;
        }
        return i == -1 ? best.size() : i < best.size() ? best.get(i) : -1;
    }

    private static boolean lessRow(List<Integer> a, List<Integer> b) {
        for (int p = 0; p < a.size(); p++) {
            if (!a.get(p).equals(b.get(p))) {
                return a.get(p) < b.get(p);
            }
        }
        return false;
    }

    long turned() {
        String text = new StringBuilder(now.word).reverse().toString();
        return roundsOf(text).containsKey(key(now.start, 0, n())) ? 1 : 0;
    }

    /** Earley's items (rule, dot, origin) over rules that can all derive something; null: no such beginning. */
    private Set<String> itemsBehind(String text) {
        int[] least = leastOfRules();
        if (least[now.start] < 0) {
            return null;
        }
        List<Set<String>> sets = new ArrayList<>();
        for (int at = 0; at <= text.length(); at++) {
            Set<String> set = new HashSet<>();
            ArrayDeque<String> open = new ArrayDeque<>();
            if (at == 0) {
                predict(now.start, 0, set, open, least);
            } else {
                for (String item : sets.get(at - 1)) {
                    int[] it = item(item);
                    String rule = now.rules[it[0]];
                    if (it[1] < rule.length() && rule.charAt(it[1]) == text.charAt(at - 1)) {
                        add(it[0], it[1] + 1, it[2], set, open);
                    }
                }
            }
            while (!open.isEmpty()) {
                int[] it = item(open.remove());
                String rule = now.rules[it[0]];
                if (it[1] < rule.length()) {
                    if (sign(rule, it[1]) < 8) {
                        predict(sign(rule, it[1]), at, set, open, least);
                    }
                } else {
                    for (String waiting : sets.get(it[2])) {
                        int[] w = item(waiting);
                        if (w[1] < now.rules[w[0]].length() && now.rules[w[0]].charAt(w[1]) == rule.charAt(0)) {
                            add(w[0], w[1] + 1, w[2], set, open);
                        }
                    }
                }
            }
            if (set.isEmpty()) {
                return null;
            }
            sets.add(set);
        }
        return sets.get(text.length());
    }

    private static int[] item(String text) {
        String[] fields = text.split(",");
        return new int[] {Integer.parseInt(fields[0]), Integer.parseInt(fields[1]), Integer.parseInt(fields[2])};
    }

    private static void add(int r, int dot, int origin, Set<String> set, ArrayDeque<String> open) {
        String item = r + "," + dot + "," + origin;
        if (set.add(item)) {
            open.add(item);
        }
    }

    private void predict(int x, int at, Set<String> set, ArrayDeque<String> open, int[] least) {
        for (int r = 0; r < 16; r++) {
            if (isRule(r) && sign(now.rules[r], 0) == x && sumOfLeast(now.rules[r], 1, least) >= 0) {
                add(r, 1, at, set, open);
            }
        }
    }

    long viable() {
        return itemsBehind(now.word) != null ? 1 : 0;
    }

    long next() {
        Set<String> items = itemsBehind(now.word);
        long bits = 0;
        if (items != null) {
            for (String item : items) {
                int[] it = item(item);
                String rule = now.rules[it[0]];
                if (it[1] < rule.length() && sign(rule, it[1]) >= 8) {
                    bits |= 1L << sign(rule, it[1]);
                }
            }
        }
        return bits;
    }

    /** Trees over all words of a length together, along the rules. */
    private BigInteger shapesOf(int x, int length, int barred) {
        if (x >= 8) {
            return length == 1 ? BigInteger.ONE : BigInteger.ZERO;
        }
        String key = key(x, length, barred);
        BigInteger known = shapeCounts.get(key);
        if (known != null) {
            return known;
        }
        BigInteger sum = BigInteger.ZERO;
        for (int r = 0; r < 16; r++) {
            if (!isRule(r) || sign(now.rules[r], 0) != x) {
                continue;
            }
            int y = sign(now.rules[r], 1);
            if (now.rules[r].length() > 2) {
                sum = sum.add(shapesOfRest(r, 1, length));
            } else if (y >= 8 || ((barred | 1 << x) >> y & 1) == 0) {
                sum = sum.add(shapesOf(y, length, barred | 1 << x));
            }
        }
        shapeCounts.put(key, sum);
        return sum;
    }

    private BigInteger shapesOfRest(int r, int p, int length) {
        int y = sign(now.rules[r], p);
        if (p == now.rules[r].length() - 1) {
            return length > 0 ? shapesOf(y, length, 0) : BigInteger.ZERO;
        }
        String key = "rest" + key(r, p, length);
        BigInteger known = shapeCounts.get(key);
        if (known != null) {
            return known;
        }
        BigInteger sum = BigInteger.ZERO;
        for (int k = 1; k < length; k++) {
            sum = sum.add(shapesOf(y, k, 0).multiply(shapesOfRest(r, p + 1, length - k)));
        }
        shapeCounts.put(key, sum);
        return sum;
    }

    long shapes(int x, int length) {
        if (x < 0 || x > 7) {
            return -2;
        }
        if (length < 1 || length > 14) {
            return -3;
        }
        return toldOr7(shapesOf(x, length, 0));
    }

    long lengths(int x) {
        if (!isSymbol(x)) {
            return -2;
        }
        long bits = 0;
        for (int length = 1; length <= 14; length++) {
            BigInteger many;
            if (x < 14) {
                many = shapesOf(x, length, 0);
            } else {
                many = shapesOfRest(helpers.get(x - 14)[0], helpers.get(x - 14)[1] + 1, length);
            }
            if (many.signum() > 0) {
                bits |= 1L << length;
            }
        }
        return bits;
    }

    /** The words themselves; null: they are too many to make here. */
    private Set<String> language(int x, int length) {
        for (int size = 1; size <= length; size++) {
            if (languages.containsKey(key(7, size, 0))) {
                continue;
            }
            if (!makeLanguages(size)) {
                return null;
            }
        }
        return languages.get(key(x, length, 0));
    }

    private boolean makeLanguages(int size) {
        List<Set<String>> found = new ArrayList<>();
        for (int x = 0; x < 8; x++) {
            found.add(new TreeSet<>());
        }
        for (String rule : now.rules) {
            if (rule != null && (rule.length() > 2 || sign(rule, 1) >= 8)) {
                if (!addWords(found.get(sign(rule, 0)), rule, 1, "", size)) {
                    return false;
                }
            }
        }
        for (int again = 0; again < 8; again++) {
            for (String rule : now.rules) {
                if (rule != null && rule.length() == 2 && sign(rule, 1) < 8) {
                    found.get(sign(rule, 0)).addAll(found.get(sign(rule, 1)));
                }
            }
        }
        for (int x = 0; x < 8; x++) {
            if (found.get(x).size() > SET_MOST) {
                return false;
            }
            languages.put(key(x, size, 0), found.get(x));
        }
        return true;
    }

    private boolean addWords(Set<String> to, String rule, int p, String ahead, int size) {
        int left = size - ahead.length();
        if (p == rule.length()) {
            if (left == 0) {
                to.add(ahead);
            }
            return to.size() <= SET_MOST;
        }
        int behind = rule.length() - 1 - p;
        int y = sign(rule, p);
        if (y >= 8) {
            return left <= behind || addWords(to, rule, p + 1, ahead + rule.charAt(p), size);
        }
        int from = behind == 0 ? left : 1;
        for (int k = Math.max(1, from); k <= left - behind && k < size; k++) {
            for (String word : languages.get(key(y, k, 0))) {
                if (!addWords(to, rule, p + 1, ahead + word, size)) {
                    return false;
                }
            }
        }
        return true;
    }

    private String nearest() {
        String best = null;
        if (n() == 0) {
            return null;
        }
        for (String word : language(now.start, n())) {
            if (best == null || others(word) < others(best)
                    || others(word) == others(best) && word.compareTo(best) < 0) {
                best = word;
            }
        }
        return best;
    }

    private int others(String word) {
        int many = 0;
        for (int p = 0; p < n(); p++) {
            many += word.charAt(p) == now.word.charAt(p) ? 0 : 1;
        }
        return many;
    }

    long changes() {
        if (n() > 0 && language(now.start, n()) == null) {
            return UNTOLD;
        }
        String best = nearest();
        return best == null ? -1 : others(best);
    }

    long changed(int i) {
        if (i < 0) {
            return -3;
        }
        if (n() > 0 && language(now.start, n()) == null) {
            return UNTOLD;
        }
        String best = nearest();
        return best == null || i >= n() ? -1 : sign(best, i);
    }

    long words(int length) {
        if (length < 1 || length > 4) {
            return -3;
        }
        Set<String> all = language(now.start, length);
        return all == null ? UNTOLD : all.size();
    }

    long first(int length, int i) {
        if (length < 1 || length > 4 || i < 0) {
            return -3;
        }
        Set<String> all = language(now.start, length);
        if (all == null) {
            return UNTOLD;
        }
        return all.isEmpty() || i >= length ? -1 : sign(Collections.min(all), i);
    }

    // ---- trays, back

    long tray(int tray, int size) {
        if (tray < 0 || tray > 2) {
            return -2;
        }
        if (size < 0 || size > 20) {
            return -3;
        }
        trays[tray] = new long[size];
        return 0;
    }

    long copy(int tray, int at, int i) {
        if (tray < 0 || tray > 2 || !isPlace(i)) {
            return -2;
        }
        if (trays[tray] == null) {
            return -6;
        }
        int many = n() - i;
        if (at < 0 || (long) at + many > trays[tray].length) {
            return -7;
        }
        for (int j = i + 1; j <= n(); j++) {
            trays[tray][at + j - i - 1] = cell(i, j);
        }
        return many;
    }

    long number(int tray, int i) {
        if (tray < 0 || tray > 2) {
            return -2;
        }
        if (trays[tray] == null) {
            return -6;
        }
        return i < 0 || i >= trays[tray].length ? -7 : trays[tray][i];
    }

    long undo(int times) {
        if (times < 1 || times > 10 || times > past.size()) {
            return -3;
        }
        for (int k = 0; k < times; k++) {
            now = past.removeLast();
        }
        forget();
        return past.size();
    }

    long image(int i) {
        if (i < 0 || i > 1) {
            return -2;
        }
        images[i] = now.copy();
        return 0;
    }

    long restore(int i) {
        if (i < 0 || i > 1) {
            return -2;
        }
        if (images[i] == null) {
            return -6;
        }
        now = images[i].copy();
        past.clear();
        forget();
        return 0;
    }

    long count(int what) {
        int many = 0;
        int bits = 0;
        int units = 0;
        for (int r = 0; r < 16; r++) {
            if (isRule(r)) {
                many++;
                bits |= 1 << r;
                units += now.rules[r].length() == 2 ? 1 : 0;
            }
        }
        switch (what) {
            case 0: return many;
            case 1: return bits;
            case 2: return units;
            case 3: return symbols() - 14;
            case 4: return now.start;
            case 5: return n();
            case 6: return past.size();
            case 7: return tape.size();
            default: return -1;
        }
    }
}

import java.util.ArrayList;
import java.util.List;
import java.util.Random;

/** Runs of calls drawn by a fixed seed, each answer beside the one of the Oracle. */
public final class RandomRunsTest {
    private static final String NAMES = "ABCDEFGH";
    private static final String LETTERS = "abcdef";
    private static final int CALLS = 400;
    private static int wrong = 0;
    private static long asked = 0;
    private static long untold = 0;

    private final Random random;
    private final BitRecogniser mine = new BitRecogniser();
    private final Oracle due = new Oracle();
    private final int seed;
    private final boolean dense;
    private final int names;
    private final int letters;
    private final int longest;
    private final int unitShare;
    private final List<String> calls = new ArrayList<>();

    private RandomRunsTest(int seed) {
        this.seed = seed;
        random = new Random(seed);
        // few symbols with many rules: more trees than a long holds
        dense = seed % 10 == 9;
        names = dense ? 2 + random.nextInt(3) : 1 + random.nextInt(random.nextInt(4) == 0 ? 8 : 4);
        letters = dense ? 1 : 1 + random.nextInt(random.nextInt(4) == 0 ? 6 : 3);
        longest = dense || random.nextInt(5) == 0 ? 14 : 3 + random.nextInt(6);
        unitShare = random.nextInt(3) == 0 ? 6 : 3;
    }

    public static void main(String[] args) {
        int first = args.length > 0 ? Integer.parseInt(args[0]) : 0;
        int runs = args.length > 1 ? Integer.parseInt(args[1]) : 500;
        for (int seed = first; seed < first + runs && wrong < 10; seed++) {
            new RandomRunsTest(seed).run();
        }
        System.out.println("RandomRunsTest: " + asked + " answers, " + untold + " of them too dear to tell, "
                + wrong + " wrong");
        if (wrong != 0 || untold * 5 > asked) {
            System.exit(1);
        }
    }

    private void check(String call, long got, long want) {
        asked++;
        calls.add(call + " = " + got);
        if (want == Oracle.UNTOLD) {
            untold++;
        } else if (got != want) {
            wrong++;
            System.out.println("seed " + seed + ": " + call + " answered " + got + ", due is " + want);
            if (wrong == 1) {
                System.out.println(String.join("\n", calls));
            }
        }
    }

    private void run() {
        int wrongBefore = wrong;
        tellGrammar();
        tellWord();
        for (int call = 0; call < CALLS && wrong == wrongBefore; call++) {
            int kind = random.nextInt(100);
            if (kind < 8) {
                tellRule();
            } else if (kind < 14) {
                tellWord();
            } else if (kind < 22) {
                changeOther();
            } else {
                ask(random.nextInt(42));
            }
        }
    }

    private void tellGrammar() {
        int many = dense ? 60 : 1 + random.nextInt(10);
        for (int r = 0; r < many; r++) {
            tellRule();
        }
        // without units to letters next to nothing is ever derived
        for (int k = 0; k < 2; k++) {
            tellText("" + pick(NAMES, names) + pick(LETTERS, letters), true);
        }
    }

    private char pick(String signs, int most) {
        return signs.charAt(random.nextInt(most));
    }

    private void tellRule() {
        StringBuilder text = new StringBuilder();
        text.append(pick(NAMES, names));
        int parts = random.nextInt(10) < unitShare ? 1 : 2 + (dense ? 0 : random.nextInt(2) * random.nextInt(4));
        for (int p = 0; p < parts; p++) {
            text.append(random.nextInt(5) < 2 ? pick(LETTERS, letters) : pick(NAMES, names));
        }
        spoil(text);
        tellText(text.toString(), true);
    }

    private void tellWord() {
        StringBuilder text = new StringBuilder();
        int size = dense ? longest - random.nextInt(5) : random.nextInt(longest + 1);
        for (int p = 0; p < size; p++) {
            text.append(pick(LETTERS, letters));
        }
        if (random.nextInt(20) == 0) {
            text.append("aabbaabbaabbaabb");
        }
        spoil(text);
        tellText(text.toString(), false);
    }

    private void spoil(StringBuilder text) {
        if (random.nextInt(12) == 0) {
            String bad = "@I`gzZ\u0000\u00ff\u00c1aA";
            text.insert(random.nextInt(text.length() + 1), bad.charAt(random.nextInt(bad.length())));
        }
        if (random.nextInt(30) == 0) {
            text.setLength(random.nextInt(text.length() + 1));
        }
        if (random.nextInt(40) == 0) {
            text.append("ABCDEF");
        }
    }

    private void tellText(String text, boolean rule) {
        int length = Math.min(text.length(), 40);
        for (int from = 0; from < Math.max(1, length); from += 20) {
            int[] fours = new int[5];
            for (int p = 0; p < 20 && from + p < length; p++) {
                fours[p / 4] |= text.charAt(from + p) << (24 - 8 * (p % 4));
            }
            feed(fours);
        }
        int n = random.nextInt(40) == 0 ? edge() : length;
        if (rule) {
            check("rule(" + n + ") " + text, mine.rule(n), due.rule(n));
        } else {
            check("word(" + n + ") " + text, mine.word(n), due.word(n));
        }
        check("fault(0)", mine.fault(0), due.fault(0));
        check("fault(1)", mine.fault(1), due.fault(1));
    }

    private void feed(int[] f) {
        check("feed(..)", mine.feed(f[0], f[1], f[2], f[3], f[4]), due.feed(f));
    }

    private void changeOther() {
        int a = number(17) - 1;
        switch (random.nextInt(9)) {
            case 0 -> check("drop(" + a + ")", mine.drop(a), due.drop(a));
            case 1 -> {
                int x = number(names + 1) - 1;
                check("start(" + x + ")", mine.start(x), due.start(x));
            }
            case 2 -> {
                int n = number(4);
                check("undo(" + n + ")", mine.undo(n), due.undo(n));
            }
            case 3 -> {
                int i = number(3);
                check("image(" + i + ")", mine.image(i), due.image(i));
            }
            case 4 -> {
                int i = number(3);
                check("restore(" + i + ")", mine.restore(i), due.restore(i));
            }
            case 5 -> {
                int tray = number(3);
                int n = number(30) == 0 ? 21 : 5 + number(16);
                check("tray(" + tray + ", " + n + ")", mine.tray(tray, n), due.tray(tray, n));
            }
            default -> {
                int tray = number(3);
                int at = number(8) - 1;
                int i = place();
                check("copy(" + tray + ", " + at + ", " + i + ")", mine.copy(tray, at, i), due.copy(tray, at, i));
            }
        }
    }

    private int edge() {
        int[] edges = {-1, -2, 0, 1, 5, 14, 15, 16, 40, 41, 62, Integer.MAX_VALUE, Integer.MIN_VALUE, -2147483647};
        return edges[random.nextInt(edges.length)];
    }

    private int number(int most) {
        return random.nextInt(25) == 0 ? edge() : random.nextInt(most);
    }

    private int name() {
        return random.nextInt(25) == 0 ? edge() : random.nextInt(names + 1);
    }

    private int symbol() {
        int kind = random.nextInt(25);
        if (kind == 0) {
            return edge();
        }
        return kind < 15 ? random.nextInt(names) : random.nextInt(14 + Math.min(8, (int) due.count(3) + 1));
    }

    private int place() {
        return number((int) due.count(5) + 1);
    }

    private void ask(int which) {
        int x = symbol();
        int i = place();
        int j = random.nextInt(10) == 0 ? place() : i + 1 + random.nextInt(Math.max(1, (int) due.count(5) - Math.max(i, 0)));
        int k = number(6) - 1;
        int what = number(6);
        String at = "(" + x + ", " + i + ", " + j + ")";
        switch (which) {
            case 0 -> check("part(" + k + ", " + (what - 2) + ")", mine.part(k, what - 2), due.part(k, what - 2));
            case 1 -> check("pairs()", mine.pairs(), due.pairs());
            case 2 -> {
                int p = number(12);
                check("pair(" + p + ", " + what + ")", mine.pair(p, what), due.pair(p, what));
            }
            case 3 -> {
                int h = 13 + number(10);
                int w = number(3);
                check("back(" + h + ", " + w + ")", mine.back(h, w), due.back(h, w));
            }
            case 4 -> {
                int n = name();
                check("units(" + n + ")", mine.units(n), due.units(n));
            }
            case 5 -> check("rounds()", mine.rounds(), due.rounds());
            case 6 -> check("least(" + x + ")", mine.least(x), due.least(x));
            case 7 -> {
                int w = number(3);
                check("reached(" + w + ")", mine.reached(w), due.reached(w));
            }
            case 8 -> check("cell(" + i + ", " + j + ")", mine.cell(i, j), due.cell(i, j));
            case 9 -> check("accepted()", mine.accepted(), due.accepted());
            case 10, 11 -> check("round" + at, mine.round(x, i, j), due.round(x, i, j));
            case 12 -> check("last()", mine.last(), due.last());
            case 13 -> {
                int y = symbol();
                check("product(" + x + ", " + y + ", " + i + ")", mine.product(x, y, i), due.product(x, y, i));
            }
            case 14 -> {
                int y = symbol();
                check("cuts(" + x + ", " + y + ", " + i + ", " + j + ")", mine.cuts(x, y, i, j), due.cuts(x, y, i, j));
            }
            case 15 -> check("row(" + x + ", " + i + ")", mine.row(x, i), due.row(x, i));
            case 16 -> {
                int w = number(4);
                check("spans(" + x + ", " + w + ")", mine.spans(x, w), due.spans(x, w));
            }
            case 17, 18 -> {
                int n = name();
                check("trees(" + n + ", " + i + ", " + j + ")", mine.trees(n, i, j), due.trees(n, i, j));
            }
            case 19 -> {
                int w = number(4);
                check("doubtful(" + w + ")", mine.doubtful(w), due.doubtful(w));
            }
            case 20 -> check("nodes()", mine.nodes(), due.nodes());
            case 21, 22 -> {
                int n = number(12);
                check("node(" + n + ", " + what + ")", mine.node(n, what), due.node(n, what));
            }
            case 23, 24, 25, 26 -> askTree();
            case 27 -> {
                int r = number(17) - 1;
                check("loss(" + r + ")", mine.loss(r), due.loss(r));
            }
            case 28 -> {
                int m = number(8);
                int s = number(6);
                check("form(" + m + ", " + s + ")", mine.form(m, s), due.form(m, s));
            }
            case 29 -> {
                int m = number(8);
                check("length(" + m + ")", mine.length(m), due.length(m));
            }
            case 30 -> check("beginnings()", mine.beginnings(), due.beginnings());
            case 31 -> check("pieces(" + k + ")", mine.pieces(k), due.pieces(k));
            case 32 -> check("turned()", mine.turned(), due.turned());
            case 33 -> check("viable()", mine.viable(), due.viable());
            case 34 -> check("next()", mine.next(), due.next());
            case 35 -> check("lengths(" + x + ")", mine.lengths(x), due.lengths(x));
            case 36 -> {
                int n = name();
                int s = number(15);
                check("shapes(" + n + ", " + s + ")", mine.shapes(n, s), due.shapes(n, s));
            }
            case 37 -> check("changes()", mine.changes(), due.changes());
            case 38 -> check("changed(" + i + ")", mine.changed(i), due.changed(i));
            case 39 -> {
                int n = number(6);
                check("words(" + n + ")", mine.words(n), due.words(n));
                int s = number(5) - 1;
                check("first(" + n + ", " + s + ")", mine.first(n, s), due.first(n, s));
            }
            case 40 -> {
                int t = number(12) == 0 ? -1 : number(3);
                int s = number(16) - 1;
                check("number(" + t + ", " + s + ")", mine.number(t, s), due.number(t, s));
            }
            default -> {
                int w = number(9);
                check("count(" + w + ")", mine.count(w), due.count(w));
            }
        }
    }

    private void askTree() {
        long many = mine.count(5) == 0 ? 0 : mine.trees(mine.count(4), 0, mine.count(5));
        int most = (int) Math.min(Integer.MAX_VALUE - 1L, Math.max(0L, many));
        int m = random.nextInt(10) == 0 ? edge() : random.nextInt(most + 1);
        for (int k = -1; k < 4; k++) {
            int what = number(6);
            check("tree(" + m + ", " + k + ", " + what + ")", mine.tree(m, k, what), due.tree(m, k, what));
        }
        int k = number(20);
        int what = number(5);
        check("tree(" + m + ", " + k + ", " + what + ")", mine.tree(m, k, what), due.tree(m, k, what));
    }
}

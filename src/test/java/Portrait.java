import java.util.LinkedHashMap;
import java.util.Map;

/**
 * All that an object can be asked about what it holds, by call. It uses the object up, as only going back shows
 * what can be undone and what the images hold; with what a test asks ahead of it it stays below 512 calls.
 */
final class Portrait {
    private final Map<String, Long> lines = new LinkedHashMap<>();
    private final BitRecogniser x;

    private Portrait(BitRecogniser x) {
        this.x = x;
    }

    static Map<String, Long> of(BitRecogniser x) {
        Portrait portrait = new Portrait(x);
        portrait.countAll();
        portrait.listRules();
        portrait.listCells();
        portrait.listTrays();
        portrait.askAround();
        portrait.goBack();
        return portrait.lines;
    }

    private void put(String call, long answer) {
        lines.put(call, answer);
    }

    private void countAll() {
        for (int what = 0; what <= 7; what++) {
            put("count(" + what + ")", x.count(what));
        }
        put("fault(0)", x.fault(0));
        put("fault(1)", x.fault(1));
    }

    private void listRules() {
        for (int r = 0; r < 16; r++) {
            long part = x.part(r, -1);
            put("part(" + r + ", -1)", part);
            for (int i = 0; part >= 0 && i < 5; i++) {
                part = x.part(r, i);
                put("part(" + r + ", " + i + ")", part);
            }
        }
    }

    private void listCells() {
        int letters = x.count(5);
        for (int i = 0; i < letters; i++) {
            for (int j = i + 1; j <= letters; j++) {
                put("cell(" + i + ", " + j + ")", x.cell(i, j));
            }
        }
    }

    private void listTrays() {
        for (int tray = 0; tray < 3; tray++) {
            long number = 0;
            // cells are never below 0, so only a code ends a tray
            for (int i = 0; number >= 0 && i <= 20; i++) {
                number = x.number(tray, i);
                put("number(" + tray + ", " + i + ")", number);
            }
        }
    }

    private void askAround() {
        put("last()", x.last());
        put("nodes()", x.nodes());
        put("doubtful(0)", x.doubtful(0));
        put("lengths(0)", x.lengths(0));
        put("shapes(0, 4)", x.shapes(0, 4));
        put("changes()", x.changes());
        put("words(2)", x.words(2));
        askShortly("now");
    }

    private void askShortly(String when) {
        put(when + ": count(1)", x.count(1));
        put(when + ": count(4)", x.count(4));
        put(when + ": count(5)", x.count(5));
        put(when + ": pairs()", x.pairs());
        put(when + ": accepted()", x.accepted());
    }

    private void goBack() {
        long left = 1;
        for (int n = 1; left > 0 && n <= 11; n++) {
            left = x.undo(1);
            put("undo(1) the " + n + ". time", left);
            askShortly("behind undo(1) the " + n + ". time");
        }
        for (int i = 0; i < 2; i++) {
            put("restore(" + i + ")", x.restore(i));
            askShortly("behind restore(" + i + ")");
        }
    }
}

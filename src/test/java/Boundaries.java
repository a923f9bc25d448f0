import java.util.HashSet;
import java.util.Map;
import java.util.Set;
import java.util.TreeSet;

/** What the tests of single sentences share: states to ask in, and what a call that answers a code leaves as it was. */
abstract class Boundaries extends Sample {
    interface Maker {
        BitRecogniser make();
    }

    interface Asker {
        long ask(BitRecogniser x);
    }

    interface IntAsker {
        long ask(BitRecogniser x, int argument);
    }

    /** What a refused call is told to change: what a call answers then. */
    record Change(String call, long answer) { }

    static final int NO_SUCH = -2;
    static final int NO_NUMBER = -3;
    static final int TOO_MANY = -4;
    static final int NOT_NOW = -5;
    static final int NOT_MADE = -6;
    static final int NO_ROOM = -7;

    static int promise = 0;
    static String words = "";
    static int asked = 0;
    static int wrong = 0;
    /** For each promise and code whether a test has seen it: "3: -4". */
    static final Set<String> codesSeen = new HashSet<>();

    static void due(String call, long got, long want) {
        asked++;
        if (got != want) {
            wrong++;
            System.out.println("promise " + promise + ", \"" + words + "\": " + call + " answered " + got + ", due is " + want);
        }
    }

    static void letIn(String call, long got) {
        asked++;
        if (got < NONE) {
            wrong++;
            System.out.println("promise " + promise + ", \"" + words + "\": " + call + " answered " + got + ", due is no refusal");
        }
    }

    static Change then(String call, long answer) {
        return new Change(call, answer);
    }

    /** The call answers the code; an object on which it was called is like one on which it wasn't, but for the changes. */
    static void answers(long code, String call, Maker maker, Asker asker, Change... changes) {
        codesSeen.add(promise + ": " + code);
        BitRecogniser x = maker.make();
        due(call, asker.ask(x), code);
        Map<String, Long> want = Portrait.of(maker.make());
        for (Change change : changes) {
            want.put(change.call, change.answer);
        }
        dueAlike(call, Portrait.of(x), want);
    }

    /** Of two objects all answers, by call. */
    static void dueAlike(String when, Map<String, Long> got, Map<String, Long> want) {
        Set<String> calls = new TreeSet<>(want.keySet());
        calls.addAll(got.keySet());
        for (String after : calls) {
            due(when + ", then " + after, got.getOrDefault(after, Long.MIN_VALUE), want.getOrDefault(after, Long.MIN_VALUE));
        }
    }

    /** What a text with a FAULT is told to change: the tape is empty, and fault() tells of it. */
    static void faulty(int fault, int place, String call, Maker maker, Asker asker) {
        answers(-30 - fault, call, maker, asker, then("count(7)", 0), then("fault(0)", fault), then("fault(1)", place));
    }

    /** Each such argument answers the code and changes nothing. */
    static void each(long code, String call, int[] arguments, Maker maker, IntAsker asker) {
        for (int argument : arguments) {
            answers(code, call + " of " + argument, maker, x -> asker.ask(x, argument));
        }
    }

    /** Both ends are let in; one beyond each, and the least and the greatest int, answer the code. */
    static void bounds(long code, String call, int least, int greatest, Maker maker, IntAsker asker) {
        letIn(call + " of " + least, asker.ask(maker.make(), least));
        letIn(call + " of " + greatest, asker.ask(maker.make(), greatest));
        each(code, call, new int[] {least - 1, greatest + 1, LEAST_INT, GREATEST_INT}, maker, asker);
    }

    // ---- states to ask in

    /**
     * Something of all that there is: the rules of wound() but its C B (2 is free), D ABC, H a, A as START, "abcb", ten
     * calls to undo and one forgotten, IMAGE 1, TRAYS 0 and 2, a FAULT, 20 bytes on the tape.
     */
    static BitRecogniser busy() {
        BitRecogniser x = wound("abcb");
        x.image(1);
        rule(x, "DABC");
        rule(x, "Ha");
        x.drop(2);
        x.start(1);
        x.start(0);
        x.tray(0, 3);
        x.tray(2, 20);
        x.copy(0, 0, 1);
        x.copy(2, 16, 0);
        rule(x, "AaZ");
        feed(x, "Ea");
        return x;
    }

    /** All places taken: 16 rules of 5 parts, 14 letters, 40 bytes, 3 trays of 20 longs, 2 images, 10 calls to undo. */
    static BitRecogniser crammed() {
        BitRecogniser x = full();
        x.image(0);
        word(x, "aaaddaaaaaaaaf");
        x.image(1);
        for (int tray = 0; tray < 3; tray++) {
            x.tray(tray, 20);
            x.copy(tray, 6 - 3 * tray, 3 * tray);
        }
        word(x, "abZ");
        feed(x, "Ba");
        feed(x, LONGEST);
        return x;
    }
}

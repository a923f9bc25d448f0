import java.io.IOException;
import java.lang.reflect.InvocationTargetException;
import java.lang.reflect.Method;
import java.util.ArrayList;
import java.util.Comparator;
import java.util.List;
import java.util.regex.Matcher;
import java.util.regex.Pattern;

/**
 * Runs each test of a sentence, and holds them against ../shared/DOC.md: the words stand there under that promise, no
 * words stand there of which there is no test, and each code that a promise names is answered by a test of it.
 */
public final class BoundaryTest extends Boundaries {
    private static final int PROMISES = 49;
    private static final Class<?>[] PARTS = {TermsBoundaries.class, TellingBoundaries.class, BinaryBoundaries.class, SpanBoundaries.class, TreeBoundaries.class, WordBoundaries.class, BackBoundaries.class, AgainBoundaries.class,
        TermsSentences.class, PromiseSentences.class};
    /** What of the document is no sentence: headings, the face (LanguageTest has it), which calls stand under which heading. */
    private static final String[] NO_SENTENCES = {"^# BitRecogniser ## What it is", "## The public face .*?## Terms", "==== [23]\\.",
        "```(text)?", "The constants:", "Ahead of the calls [^.]*---- [a-z, ]*\\.", "^## Promise \\d+: [^`]*`[^`]*`:"};

    /** What stands under a promise; 0: ahead of the first one. */
    private static String section(String document, int promise) {
        int from = promise == 0 ? 0 : document.indexOf("## Promise " + promise + ":");
        int to = document.indexOf(promise == PROMISES ? "## Not promised" : "## Promise " + (promise + 1) + ":");
        return document.substring(from, to);
    }

    private static List<Method> tests() {
        List<Method> tests = new ArrayList<>();
        for (Class<?> part : PARTS) {
            for (Method method : part.getDeclaredMethods()) {
                if (method.isAnnotationPresent(Sentence.class)) {
                    tests.add(method);
                }
            }
        }
        tests.sort(Comparator.comparing((Method test) -> test.getAnnotation(Sentence.class).promise()).thenComparing(Method::getName));
        return tests;
    }

    private static void hold(boolean holds, String what) {
        asked++;
        if (!holds) {
            wrong++;
            System.out.println("promise " + promise + ": " + what);
        }
    }

    private static void runTest(Method test, String document) throws IllegalAccessException {
        promise = test.getAnnotation(Sentence.class).promise();
        words = test.getAnnotation(Sentence.class).words();
        hold(section(document, promise).contains(words), "the document has no words \"" + words + "\" there");
        try {
            test.invoke(null);
        } catch (InvocationTargetException thrown) {
            hold(false, test.getName() + " threw " + thrown.getCause());
        }
    }

    /** "-30 less the FAULT" stands for a code of each FAULT that the promise tells. */
    private static void checkCodes(String text) {
        Matcher codes = Pattern.compile("(?<![\\w(])-(\\d+)\\b").matcher(text);
        while (codes.find()) {
            String code = codes.group();
            hold(codesSeen.contains(promise + ": " + code) || code.equals("-30"), "no test has seen " + code);
        }
        for (int fault = 1; text.contains("-30 less") && fault <= 3; fault++) {
            hold(codesSeen.contains(promise + ": -3" + fault), "no test has seen -3" + fault);
        }
        hold(!text.contains("NONE") || codesSeen.contains(promise + ": -1"), "no test has seen NONE");
    }

    /** All words of a section are those of some test. */
    private static void checkQuoted(String text, List<Method> tests) {
        StringBuilder left = new StringBuilder(text);
        for (String none : NO_SENTENCES) {
            Matcher found = Pattern.compile(none).matcher(text);
            while (found.find()) {
                blank(left, found.start(), found.end());
            }
        }
        for (Method test : tests) {
            Sentence sentence = test.getAnnotation(Sentence.class);
            int at = sentence.promise() == promise ? text.indexOf(sentence.words()) : -1;
            while (at >= 0) {
                blank(left, at, at + sentence.words().length());
                at = text.indexOf(sentence.words(), at + 1);
            }
        }
        Matcher words = Pattern.compile("\\w[^ ]*( [^ ]+)*").matcher(left);
        while (words.find()) {
            hold(false, "no test has the words \"" + words.group() + "\"");
        }
    }

    private static void blank(StringBuilder text, int from, int to) {
        for (int at = from; at < to; at++) {
            text.setCharAt(at, ' ');
        }
    }

    public static void main(String[] args) throws IOException, IllegalAccessException {
        String document = Project.read("../shared/DOC.md").replaceAll("\\s+", " ");
        List<Method> tests = tests();
        boolean[] told = new boolean[PROMISES + 1];
        for (Method test : tests) {
            runTest(test, document);
            told[promise] = true;
        }
        for (promise = 0; promise <= PROMISES; promise++) {
            hold(told[promise], "no sentence has a test");
            checkQuoted(section(document, promise), tests);
            if (promise > 0) {
                checkCodes(section(document, promise));
            }
        }
        System.out.println("BoundaryTest: " + tests.size() + " tests of sentences, " + asked + " answers, " + wrong + " wrong");
        if (wrong != 0) {
            System.exit(1);
        }
    }
}

import java.io.IOException;
import java.lang.reflect.Field;
import java.lang.reflect.Method;
import java.lang.reflect.Modifier;
import java.nio.file.Files;
import java.nio.file.Path;
import java.util.ArrayList;
import java.util.List;
import java.util.Set;
import java.util.TreeSet;
import java.util.regex.Matcher;
import java.util.regex.Pattern;

/** What of ../shared/LANGUAGE.md can be seen without running the class: its text and its face. */
public final class LanguageTest {
    private static final String FACE = "feed rule word fault drop start part pairs pair back units rounds least reached cell accepted "
            + "round last product cuts row spans trees doubtful nodes node tree loss form length beginnings pieces turned viable next "
            + "lengths shapes changes changed words first tray copy number undo image restore count";
    /** Number of the rule, what may not stand in the text. */
    private static final String[][] BARRED = {
        {"2", "->"}, {"2", "::"}, {"2", "\\bclass\\s*\\{"}, {"2", "new \\w+\\([^)]*\\)\\s*\\{"},
        {"3", "\\bvar\\b"}, {"3", "\\bObject\\b"}, {"3", "\\bHash"}, {"3", "\\bList<"},
        {"4", "\\bimport\\b"}, {"4", "^\\s*package\\b"}, {"4", "Exact\\("}, {"4", "\\bSystem\\."}, {"4", "@"},
        {"6", "\\b(throw|throws|try|catch|finally|synchronized|assert)\\b"}, {"6", "\\b(equals|hashCode|toString)\\b"},
        {"9", "while \\(true\\)"}, {"9", "for \\(;"},
        {"13", "\\b(Random|Thread|nanoTime|currentTimeMillis)\\b"},
    };
    private static int wrong = 0;

    private static void hold(boolean holds, String what) {
        if (!holds) {
            wrong++;
            System.out.println("LanguageTest: " + what);
        }
    }

    private static Path source() {
        // run from build/ci by .ci/run, from the project's folder by hand
        for (String up : new String[] {"", "../../"}) {
            Path path = Path.of(up + "src/main/java/BitRecogniser.java");
            if (Files.exists(path)) {
                return path;
            }
        }
        throw new IllegalStateException("src/main/java/BitRecogniser.java is not found");
    }

    private static String withoutComments(String text) {
        return Pattern.compile("/\\*.*?\\*/", Pattern.DOTALL).matcher(text).replaceAll("").replaceAll("//[^\n]*", "");
    }

    private static void checkText(String text) {
        String code = withoutComments(text);
        for (String[] barred : BARRED) {
            Matcher found = Pattern.compile(barred[1], Pattern.MULTILINE).matcher(code);
            if (found.find()) {
                hold(false, "rule " + barred[0] + ": " + found.group());
            }
        }
        hold(text.chars().allMatch(sign -> sign < 128), "signs above 127");
        Matcher classes = Pattern.compile("\\b(class|record|enum|interface) [A-Z]").matcher(code);
        hold(classes.results().count() <= 12, "rule 11: more than twelve classes");
        Matcher news = Pattern.compile("\\n    (private|public)[^\\n]* \\w+\\([^\\n]*\\{\\n(.*?)\\n    \\}", Pattern.DOTALL).matcher(code);
        while (news.find()) {
            boolean method = !news.group().contains("public BitRecogniser()") && !news.group().contains(" class ");
            hold(!method || !news.group(2).contains("new "), "a call that makes an object: " + news.group().trim().split("\n")[0]);
        }
    }

    private static void checkMethodSizes(String text) {
        String[] lines = text.split("\n");
        for (int k = 0; k < lines.length; k++) {
            Matcher head = Pattern.compile("^( {4}| {8})(?! )(?!.*\\b(class|return|new|switch|if|for|while)\\b).*\\w+\\(.*\\) \\{$").matcher(lines[k]);
            if (!head.matches()) {
                continue;
            }
            int end = k;
            while (end < lines.length && !lines[end].equals(head.group(1) + "}")) {
                end++;
            }
            hold(end - k < 60, "rule 11: " + (end - k + 1) + " lines: " + lines[k].trim());
        }
    }

    private static void checkFace() {
        Set<String> names = new TreeSet<>(List.of(FACE.split(" ")));
        Set<String> found = new TreeSet<>();
        for (Method method : BitRecogniser.class.getDeclaredMethods()) {
            boolean open = Modifier.isPublic(method.getModifiers());
            hold(open || Modifier.isPrivate(method.getModifiers()), "rule 1: neither public nor private: " + method);
            hold(open == names.contains(method.getName()), "rule 1: " + method);
            if (open) {
                hold(found.add(method.getName()), "rule 1: twice " + method);
            }
        }
        hold(found.equals(names), "the face lacks some of " + names);
        hold(Modifier.isFinal(BitRecogniser.class.getModifiers()), "rule 1: the class isn't final");
        hold(BitRecogniser.class.getConstructors().length == 1, "rule 1: constructors");
        checkFields(BitRecogniser.class);
        for (Class<?> inside : BitRecogniser.class.getDeclaredClasses()) {
            hold(Modifier.isStatic(inside.getModifiers()), "rule 2: " + inside);
            hold(!Modifier.isPublic(inside.getModifiers()), "rule 1: " + inside);
            checkFields(inside);
            for (Method method : inside.getDeclaredMethods()) {
                hold(!names.contains(method.getName()), "rule 1: the name of a public one: " + method);
                hold(method.getParameterCount() <= 7, "rule 11: parameters of " + method);
            }
        }
    }

    private static void checkFields(Class<?> which) {
        List<Field> own = new ArrayList<>();
        for (Field field : which.getDeclaredFields()) {
            if (Modifier.isStatic(field.getModifiers())) {
                hold(Modifier.isFinal(field.getModifiers()), "rule 5: " + field);
            } else {
                own.add(field);
            }
            boolean open = which == BitRecogniser.class && !Modifier.isPrivate(field.getModifiers());
            hold(!open || field.getName().equals("NONE"), "rule 1: " + field);
        }
        hold(own.size() <= 20, "rule 11: " + own.size() + " fields in " + which);
    }

    public static void main(String[] args) throws IOException {
        String text = Files.readString(source());
        checkText(text);
        checkMethodSizes(text);
        checkFace();
        System.out.println("LanguageTest: " + wrong + " wrong");
        if (wrong != 0) {
            System.exit(1);
        }
    }
}

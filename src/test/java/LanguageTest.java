import java.io.IOException;
import java.lang.reflect.Array;
import java.lang.reflect.Field;
import java.lang.reflect.Method;
import java.lang.reflect.Modifier;
import java.util.ArrayList;
import java.util.Arrays;
import java.util.IdentityHashMap;
import java.util.List;
import java.util.Map;
import java.util.Set;
import java.util.TreeSet;
import java.util.regex.Matcher;
import java.util.regex.Pattern;

/** What of ../shared/LANGUAGE.md can be seen without running the class: its text and its face. */
public final class LanguageTest {
    private static final String FACE = "feed rule word fault drop start part pairs pair back units rounds least reached cell accepted "
            + "round last product cuts row spans trees doubtful nodes node tree loss form length beginnings pieces turned viable next "
            + "lengths shapes changes changed words first tray copy number undo image restore count";
    /** Number of the rule, what may not stand in the text. */
    private static final String[][] BARRED = {
        {"2", "->"}, {"2", "::"}, {"2", "\\bclass\\s*\\{"}, {"2", "new \\w+\\([^)]*\\)\\s*\\{"},
        {"3", "\\bvar\\b"}, {"3", "\\bObject\\b"}, {"3", "\\bHash"}, {"3", "\\bList<"},
        {"4", "\\bimport\\b"}, {"4", "^\\s*package\\b"}, {"4", "Exact\\("}, {"4", "\\bSystem\\."}, {"4", "@"},
        {"6", "\\b(throw|throws|try|catch|finally|synchronized|assert)\\b"}, {"6", "\\b(equals|hashCode|toString)\\b"},
        {"9", "while \\(true\\)"}, {"9", "for \\(;"},
        {"13", "\\b(Random|Thread|nanoTime|currentTimeMillis)\\b"},
    };
    private static int wrong = 0;

    private static void hold(boolean holds, String what) {
        if (!holds) {
            wrong++;
            System.out.println("LanguageTest: " + what);
        }
    }

    private static String withoutComments(String text) {
        return Pattern.compile("/\\*.*?\\*/", Pattern.DOTALL).matcher(text).replaceAll("").replaceAll("//[^\n]*", "");
    }

    private static void checkText(String text) {
        String code = withoutComments(text);
        for (String[] barred : BARRED) {
            Matcher found = Pattern.compile(barred[1], Pattern.MULTILINE).matcher(code);
            if (found.find()) {
                hold(false, "rule " + barred[0] + ": " + found.group());
            }
        }
        hold(text.chars().allMatch(sign -> sign < 128), "signs above 127");
        Matcher classes = Pattern.compile("\\b(class|record|enum|interface) [A-Z]").matcher(code);
        hold(classes.results().count() <= 12, "rule 11: more than twelve classes");
        Matcher news = Pattern.compile("\\n    (private|public)[^\\n]* \\w+\\([^\\n]*\\{\\n(.*?)\\n    \\}", Pattern.DOTALL).matcher(code);
        while (news.find()) {
            boolean method = !news.group().contains("public BitRecogniser()") && !news.group().contains(" class ");
            hold(!method || !news.group(2).contains("new "), "a call that makes an object: " + news.group().trim().split("\n")[0]);
        }
    }

    private static void checkMethodSizes(String text) {
        String[] lines = text.split("\n");
        for (int k = 0; k < lines.length; k++) {
            Matcher head = Pattern.compile("^( {4}| {8})(?! )(?!.*\\b(class|return|new|switch|if|for|while)\\b).*\\w+\\(.*\\) \\{$").matcher(lines[k]);
            if (!head.matches()) {
                continue;
            }
            int end = k;
            while (end < lines.length && !lines[end].equals(head.group(1) + "}")) {
                end++;
            }
            hold(end - k < 60, "rule 11: " + (end - k + 1) + " lines: " + lines[k].trim());
            checkRecursion(lines[k].trim(), String.join("\n", Arrays.copyOfRange(lines, k + 1, end)));
        }
    }

    private static void checkRecursion(String head, String body) {
        Matcher name = Pattern.compile("(\\w+)\\(").matcher(head);
        if (name.find() && Pattern.compile("(?<![.\\w])" + name.group(1) + "\\(").matcher(body).find()) {
            hold(head.startsWith("private static "), "rule 8: calls itself and is not private and static: " + head);
            hold(head.contains("int depth"), "rule 8: calls itself and carries no depth: " + head);
        }
    }

    private static void checkFace() {
        Set<String> names = new TreeSet<>(List.of(FACE.split(" ")));
        Set<String> found = new TreeSet<>();
        for (Method method : BitRecogniser.class.getDeclaredMethods()) {
            boolean open = Modifier.isPublic(method.getModifiers());
            hold(open || Modifier.isPrivate(method.getModifiers()), "rule 1: neither public nor private: " + method);
            hold(open == names.contains(method.getName()), "rule 1: " + method);
            if (open) {
                hold(found.add(method.getName()), "rule 1: twice " + method);
            }
        }
        hold(found.equals(names), "the face lacks some of " + names);
        hold(Modifier.isFinal(BitRecogniser.class.getModifiers()), "rule 1: the class isn't final");
        hold(BitRecogniser.class.getConstructors().length == 1, "rule 1: constructors");
        checkFields(BitRecogniser.class);
        for (Class<?> inside : BitRecogniser.class.getDeclaredClasses()) {
            hold(Modifier.isStatic(inside.getModifiers()), "rule 2: " + inside);
            hold(!Modifier.isPublic(inside.getModifiers()), "rule 1: " + inside);
            checkFields(inside);
            for (Method method : inside.getDeclaredMethods()) {
                hold(!names.contains(method.getName()), "rule 1: the name of a public one: " + method);
                hold(method.getParameterCount() <= 7, "rule 11: parameters of " + method);
            }
        }
    }

    /** The face as the document writes it, each line of it. */
    private static void checkSignatures(String document) {
        String face = document.substring(document.indexOf("```java"), document.indexOf("## Terms"));
        Set<String> want = new TreeSet<>();
        Matcher lines = Pattern.compile("public (int|long) (\\w+)\\(([^)]*)\\);").matcher(face);
        while (lines.find()) {
            want.add(lines.group(1) + " " + lines.group(2) + "(" + lines.group(3).replaceAll(" \\w+(, |$)", "$1") + ")");
        }
        Set<String> found = new TreeSet<>();
        for (Method method : BitRecogniser.class.getMethods()) {
            if (method.getDeclaringClass() == BitRecogniser.class) {
                String types = Arrays.toString(method.getParameterTypes());
                found.add(method.getReturnType() + " " + method.getName() + "(" + types.substring(1, types.length() - 1) + ")");
            }
        }
        hold(want.size() == FACE.split(" ").length, "the document's face has " + want.size() + " methods");
        hold(found.equals(want), "the face is " + found + ", due is " + want);
    }

    /** Rule 12: what a new object is made of, and that calls make nothing more. */
    private static void checkRoom() throws IllegalAccessException {
        BitRecogniser x = Boundaries.busy();
        Map<Object, Object> before = new IdentityHashMap<>();
        int elements = weigh(x, before);
        hold(elements <= 30000, "an object has " + elements + " fields and elements");
        Portrait.of(x);
        Map<Object, Object> after = new IdentityHashMap<>();
        weigh(x, after);
        hold(after.keySet().equals(before.keySet()), "calls have put another object in the place of one that was there");
    }

    private static int weigh(Object it, Map<Object, Object> met) throws IllegalAccessException {
        if (it == null || met.put(it, it) != null) {
            return 0;
        }
        if (it.getClass().isArray()) {
            int below = 0;
            for (int i = 0; i < Array.getLength(it) && !it.getClass().getComponentType().isPrimitive(); i++) {
                below += weigh(Array.get(it, i), met);
            }
            return Array.getLength(it) + below;
        }
        int elements = 0;
        for (Class<?> which = it.getClass(); which != Object.class; which = which.getSuperclass()) {
            for (Field field : which.getDeclaredFields()) {
                if (!Modifier.isStatic(field.getModifiers())) {
                    elements++;
                    field.setAccessible(true);
                    elements += field.getType().isPrimitive() ? 0 : weigh(field.get(it), met);
                }
            }
        }
        return elements;
    }

    private static void checkFields(Class<?> which) {
        List<Field> own = new ArrayList<>();
        for (Field field : which.getDeclaredFields()) {
            if (Modifier.isStatic(field.getModifiers())) {
                hold(Modifier.isFinal(field.getModifiers()), "rule 5: " + field);
            } else {
                own.add(field);
            }
            boolean open = which == BitRecogniser.class && !Modifier.isPrivate(field.getModifiers());
            hold(!open || field.getName().equals("NONE"), "rule 1: " + field);
        }
        hold(own.size() <= 20, "rule 11: " + own.size() + " fields in " + which);
    }

    public static void main(String[] args) throws IOException, IllegalAccessException {
        String text = Project.read("src/main/java/BitRecogniser.java");
        checkText(text);
        checkMethodSizes(text);
        checkFace();
        checkSignatures(Project.read("../shared/DOC.md"));
        checkRoom();
        System.out.println("LanguageTest: " + wrong + " wrong");
        if (wrong != 0) {
            System.exit(1);
        }
    }
}

import java.io.File;
import java.io.IOException;
import java.lang.reflect.Method;
import java.lang.reflect.Modifier;
import java.net.URL;
import java.net.URLClassLoader;
import java.nio.file.Files;
import java.nio.file.Path;
import java.util.regex.Matcher;
import java.util.regex.Pattern;
import javax.tools.JavaCompiler;
import javax.tools.ToolProvider;

/** README.md is as it says: its calls answer what stands behind them, each call and each test is named in it. */
public final class ReadmeTest {
    private static int wrong = 0;
    private static int asked = 0;

    private static void hold(boolean holds, String what) {
        if (!holds) {
            wrong++;
            System.out.println("ReadmeTest: " + what);
        }
    }

    /** For the class that is made of README.md's own lines. */
    public static void due(String call, long got, long want) {
        asked++;
        hold(got == want, call + " answered " + got + ", README.md says " + want);
    }

    /** The first block of code are statements, the next one functions that they call. */
    private static String programOf(String readme) {
        Matcher blocks = Pattern.compile("```java\n(.*?)```", Pattern.DOTALL).matcher(readme);
        StringBuilder statements = new StringBuilder();
        StringBuilder functions = new StringBuilder();
        for (StringBuilder block = statements; blocks.find(); block = functions) {
            block.append(blocks.group(1));
        }
        Matcher calls = Pattern.compile("(?m)^((?:x\\.|feed\\().*\\)); +// (-?\\d+)(:.*)?$").matcher(statements);
        String checks = calls.replaceAll(call -> Matcher.quoteReplacement(
                "ReadmeTest.due(\"" + call.group(1).replace("\"", "\\\"") + "\", " + call.group(1) + ", " + call.group(2) + "L);"));
        Matcher unchecked = Pattern.compile("(?m)^(x\\.|feed).*$").matcher(checks);
        while (unchecked.find()) {
            hold(false, "no answer stands behind " + unchecked.group());
        }
        return "public final class ReadmeProgram {\n" + functions + "public static void run() {\n" + checks + "}\n}\n";
    }

    private static void runProgram(String program, JavaCompiler compiler) throws IOException, ReflectiveOperationException {
        Path folder = Files.createTempDirectory("readme");
        Path source = folder.resolve("ReadmeProgram.java");
        Files.writeString(source, program);
        String classes = System.getProperty("java.class.path");
        int exit = compiler.run(null, null, null, "-cp", classes, "-d", folder.toString(), source.toString());
        hold(exit == 0, "its code does not compile");
        if (exit == 0) {
            try (URLClassLoader loader = new URLClassLoader(new URL[] {folder.toUri().toURL()})) {
                loader.loadClass("ReadmeProgram").getMethod("run").invoke(null);
            }
        }
        for (File file : folder.toFile().listFiles()) {
            Files.delete(file.toPath());
        }
        Files.delete(folder);
    }

    private static void checkNames(String readme) {
        for (Method method : BitRecogniser.class.getDeclaredMethods()) {
            hold(!Modifier.isPublic(method.getModifiers()) || readme.contains("`" + method.getName() + "`"), "no word of " + method.getName());
        }
        hold(readme.contains("    .ci/run\n"), "no word of how to run the tests");
        File[] tests = Project.path("src/test/java").toFile().listFiles();
        hold(tests != null && tests.length > 0, "src/test/java has no files");
        for (File test : tests == null ? new File[0] : tests) {
            String name = test.getName().replace(".java", "");
            boolean told = !name.matches(".*(Test|Boundaries|Sentences)") || name.equals("Boundaries");
            hold(told || readme.contains("`" + name + "`"), "no word of " + name);
        }
    }

    public static void main(String[] args) throws IOException, ReflectiveOperationException {
        String readme = Project.read("README.md");
        String program = programOf(readme);
        JavaCompiler compiler = ToolProvider.getSystemJavaCompiler();
        if (compiler == null) {
            System.out.println("ReadmeTest: this java has no compiler, so README.md's calls aren't made");
        } else {
            runProgram(program, compiler);
            hold(asked >= 30, "only " + asked + " calls have an answer");
        }
        checkNames(readme);
        System.out.println("ReadmeTest: " + asked + " answers, " + wrong + " wrong");
        if (wrong != 0) {
            System.exit(1);
        }
    }
}

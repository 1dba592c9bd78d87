import java.io.IOException;
import java.lang.reflect.InvocationTargetException;
import java.lang.reflect.Method;
import java.net.URL;
import java.net.URLClassLoader;
import java.nio.file.Files;
import java.nio.file.Path;
import java.util.Comparator;
import java.util.List;
import java.util.regex.Matcher;
import java.util.regex.Pattern;
import java.util.stream.Stream;
import javax.tools.ToolProvider;

/** Holds README.md against the class: its example's answers, every call with its parameters' number, every status. */
public final class ReadmeTest {
    private static final Pattern BLOCK = Pattern.compile("```java\n(.*?)```", Pattern.DOTALL);
    private static final Pattern ANSWER = Pattern.compile("int (\\w+) = .*;\\s*// (-?\\d+)\\b.*");
    private static final int MOST_STATUS = 11;

    private static int wrong = 0;
    private static int answers = 0;

    private static void hold(boolean holds, String what) {
        if (holds) return;
        wrong++;
        System.out.println("wrong: " + what);
    }

    /** Called by the example's class, once for each answer. */
    public static void due(String line, int got, int want) {
        answers++;
        hold(got == want, line + " answered " + got);
    }

    private static String programOf(String example) {
        StringBuilder program = new StringBuilder("public final class Example {\n  public static void show() {\n");
        for (String line : example.split("\n")) {
            program.append(line).append('\n');
            Matcher answer = ANSWER.matcher(line);
            if (answer.matches()) {
                String told = line.substring(0, line.indexOf(';'));
                program.append("ReadmeTest.due(\"").append(told).append("\", ")
                    .append(answer.group(1)).append(", ").append(answer.group(2)).append(");\n");
            } else {
                hold(!line.startsWith("int "), "no answer is told behind " + line);
            }
        }
        return program.append("  }\n}\n").toString();
    }

    private static void run(String program, Path work) throws IOException, ReflectiveOperationException {
        Path file = work.resolve("Example.java");
        Files.writeString(file, program);
        int ended = ToolProvider.getSystemJavaCompiler().run(null, null, null,
            "-cp", System.getProperty("java.class.path"), "-d", work.toString(), file.toString());
        hold(ended == 0, "the example does not compile");
        if (ended != 0) return;
        try (URLClassLoader loader = new URLClassLoader(new URL[] {work.toUri().toURL()}, ReadmeTest.class.getClassLoader())) {
            loader.loadClass("Example").getMethod("show").invoke(null);
        } catch (InvocationTargetException thrown) {
            hold(false, "the example throws " + thrown.getCause());
        }
    }

    private static void remove(Path work) throws IOException {
        try (Stream<Path> files = Files.walk(work)) {
            for (Path file : files.sorted(Comparator.reverseOrder()).toList()) Files.delete(file);
        }
    }

    private static void holdExample(String readme) throws IOException, ReflectiveOperationException {
        Matcher block = BLOCK.matcher(readme);
        hold(block.find(), "there is an example");
        if (wrong > 0) return;
        Path work = Files.createTempDirectory("readme");
        try {
            run(programOf(block.group(1)), work);
        } finally {
            remove(work);
        }
        hold(answers >= 10, "the example has answers");
    }

    private static void holdCalls(String readme) {
        for (Method method : CellKeeper.class.getDeclaredMethods()) {
            if (!java.lang.reflect.Modifier.isPublic(method.getModifiers())) continue;
            int commas = Math.max(0, method.getParameterCount() - 1);
            String parameters = method.getParameterCount() == 0 ? "" : "\\w+" + "(, \\w+){" + commas + "}";
            boolean told = Pattern.compile("`" + method.getName() + "\\(" + parameters + "\\)`").matcher(readme).find();
            hold(told, "README.md does not tell of " + method.getName());
        }
    }

    private static void holdStatuses(String readme) {
        for (int status = 0; status <= MOST_STATUS; status++)
            hold(readme.contains("\n| " + status + " | "), "README.md does not tell of status " + status);
    }

    /** Every test that is there is told of, and every test that is told of is there. */
    private static void holdTests(String readme, Path project) throws IOException {
        try (Stream<Path> files = Files.list(project.resolve("src/test/java"))) {
            List<String> names = files.map(file -> file.getFileName().toString().replace(".java", "")).toList();
            for (String name : names) hold(readme.contains("`" + name + "`"), "README.md does not tell of " + name);
            Matcher told = Pattern.compile("`(\\w+Test)`").matcher(readme);
            for (boolean more = told.find(); more; more = told.find())
                hold(names.contains(told.group(1)), "there is no " + told.group(1));
        }
    }

    public static void main(String[] args) throws IOException, ReflectiveOperationException {
        Path project = Path.of(args.length > 0 ? args[0] : ".");
        String readme = Files.readString(project.resolve("README.md"));
        holdExample(readme);
        holdCalls(readme);
        holdStatuses(readme);
        holdTests(readme, project);
        System.out.println("ReadmeTest: " + answers + " answers, " + wrong + " wrong");
        if (wrong != 0) System.exit(1);
    }
}

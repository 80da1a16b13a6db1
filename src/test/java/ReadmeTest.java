import java.io.IOException;
import java.lang.reflect.InvocationTargetException;
import java.lang.reflect.Method;
import java.lang.reflect.Modifier;
import java.net.URL;
import java.net.URLClassLoader;
import java.nio.file.Files;
import java.nio.file.Path;
import java.util.ArrayList;
import java.util.List;
import java.util.regex.Matcher;
import java.util.regex.Pattern;
import java.util.stream.Stream;
import javax.tools.ToolProvider;

/**
 * README.md names each call of the face with its arguments and what it throws, and each test of the
 * project; and each answer that its example tells is the one that the program gives.
 */
public final class ReadmeTest {
    /** A call of the example, into what its answer goes (if anywhere), and what stands behind it. */
    private static final Pattern TOLD = Pattern.compile("(?:int (\\w+) = )?(.+);\\s+// ([^:]+)(?::.*)?");

    private static final Checks checks = new Checks();

    private static String lettersOf(Class<?>[] exceptions) {
        StringBuilder letters = new StringBuilder();
        for (Class<?> exception : exceptions) {
            String name = exception.getSimpleName();
            String letter = name.equals("IllegalStateException") ? "S" : name.equals("IndexOutOfBoundsException") ? "I" : "A";
            letters.append(letters.length() == 0 ? "" : ", ").append(letter);
        }
        return letters.toString();
    }

    private static void namesEachCall(List<String> page) {
        for (Method method : SnippetBank.class.getDeclaredMethods()) {
            if (Modifier.isPublic(method.getModifiers())) {
                String thrown = lettersOf(method.getExceptionTypes());
                checks.due("rows of " + method, rowsOf(page, method, thrown), 1L);
            }
        }
    }

    private static long rowsOf(List<String> page, Method method, String thrown) {
        int commas = Math.max(0, method.getParameterCount() - 1);
        String row = "\\| `" + method.getName() + "\\([^,)]" + (method.getParameterCount() == 0 ? "{0}" : "+")
                + "(, [^,)]+){" + commas + "}\\)` \\| .+ \\| " + thrown + " ?\\|";
        return page.stream().filter(line -> line.matches(row)).count();
    }

    private static void namesEachTest(List<String> page) throws IOException {
        try (Stream<Path> tests = Files.list(Path.of("src", "test", "java"))) {
            for (Path path : (Iterable<Path>) tests::iterator) {
                String name = path.getFileName().toString().replace(".java", "");
                long rows = page.stream().filter(line -> line.startsWith("| `" + name + "` |")).count();
                checks.due("rows of " + name, rows, name.endsWith("Test") ? 1L : 0L);
            }
        }
    }

    private static List<String> exampleOf(List<String> page) {
        int first = page.indexOf("```java") + 1;
        int last = page.indexOf("```");
        checks.due("there is an example", first > 0 && last > first, true);
        return first > 0 && last > first ? page.subList(first, last) : List.of();
    }

    /** The example as a class, with each answer that it tells held against the one that is given. */
    private static String programOf(List<String> example) {
        StringBuilder program = new StringBuilder("public final class Example {\n"
                + "public static void run(java.util.List<String[]> answers) {\n");
        int told = 0;
        for (String line : example) {
            Matcher call = TOLD.matcher(line);
            if (call.matches()) {
                told++;
                program.append(answerOf(told, call.group(1), call.group(2), call.group(3)));
            } else {
                program.append(line).append('\n');
            }
        }
        checks.due("answers are told", told > 10, true);
        return program.append("}\n}\n").toString();
    }

    private static String answerOf(int number, String into, String call, String told) {
        String got = "got" + number;
        return "String " + got + "; try { " + got + " = String.valueOf(" + call + "); }"
                + " catch (RuntimeException e) { " + got + " = e.getClass().getSimpleName(); }\n"
                + "answers.add(new String[] {\"" + call + "\", " + got + ", \"" + told + "\"});\n"
                + (into == null ? "" : "int " + into + " = Integer.parseInt(" + got + ");\n");
    }

    private static void exampleIsRight(List<String> example) throws IOException, ReflectiveOperationException {
        Path folder = Files.createTempDirectory("readme");
        Path source = folder.resolve("Example.java");
        Path compiled = folder.resolve("Example.class");
        Files.writeString(source, programOf(example));
        int failed = ToolProvider.getSystemJavaCompiler().run(null, null, null,
                "-cp", System.getProperty("java.class.path"), "-d", folder.toString(), source.toString());
        checks.due("the example does not compile", failed, 0);
        if (failed == 0) {
            answersOf(folder);
            Files.delete(compiled);
        }
        Files.delete(source);
        Files.delete(folder);
    }

    private static void answersOf(Path folder) throws IOException, ReflectiveOperationException {
        List<String[]> answers = new ArrayList<>();
        try (URLClassLoader loader = new URLClassLoader(new URL[] {folder.toUri().toURL()})) {
            loader.loadClass("Example").getMethod("run", List.class).invoke(null, answers);
        } catch (InvocationTargetException e) {
            checks.due("the end of the example", e.getCause(), "reached");
        }
        for (String[] answer : answers) {
            checks.due(answer[0], answer[1], answer[2]);
        }
    }

    public static void main(String[] args) throws IOException, ReflectiveOperationException {
        List<String> page = Files.readAllLines(Path.of("README.md"));
        namesEachCall(page);
        namesEachTest(page);
        exampleIsRight(exampleOf(page));
        checks.end();
    }
}

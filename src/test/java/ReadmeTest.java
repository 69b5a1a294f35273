import java.io.IOException;
import java.lang.reflect.Method;
import java.lang.reflect.Modifier;
import java.net.URL;
import java.net.URLClassLoader;
import java.nio.file.Files;
import java.nio.file.Path;
import java.util.ArrayList;
import java.util.Arrays;
import java.util.List;
import java.util.Map;
import java.util.Set;
import java.util.TreeMap;
import java.util.TreeSet;
import java.util.regex.Matcher;
import java.util.regex.Pattern;
import java.util.stream.Collectors;
import javax.tools.ToolProvider;

/** README.md, so that it does not come to tell what the class no longer does. */
public final class ReadmeTest {
    private static final Path README = Path.of("README.md");
    private static final Path TESTS = Path.of("src/test/java");
    private static final Path EXAMPLE = Path.of("build/readme");
    private static final Set<String> REGISTER_NAMES = Set.of("r", "to", "a", "b");

    private static final Check check = new Check("ReadmeTest");

    public static void main(String[] args) throws Exception {
        String text = Files.readString(README);
        example(text);
        table(text);
        tests(text);
        check.end();
    }

    private static void example(String text) throws Exception {
        check.about("the example");
        Map<String, String> said = new TreeMap<>();
        Matcher comments = Pattern.compile("// (\\w+) is (\\S+)$", Pattern.MULTILINE).matcher(exampleOf(text));
        while (comments.find()) {
            said.put(comments.group(1), comments.group(2));
        }
        check.due("answers are said in it", said.size() > 4, true);
        check.due("what it answers", answersOf(exampleOf(text), said.keySet()), said.toString());
    }

    private static String exampleOf(String text) {
        Matcher block = Pattern.compile("(?s)```java\n(.*?)```").matcher(text);
        return block.find() ? block.group(1) : "";
    }

    /** Runs the example as it stands, with lines behind it that keep what its variables hold. */
    private static String answersOf(String example, Set<String> names) throws Exception {
        String kept = names.stream().map(name -> "all.put(\"" + name + "\", String.valueOf(" + name + "));\n")
            .collect(Collectors.joining());
        Files.createDirectories(EXAMPLE);
        Path file = EXAMPLE.resolve("Example.java");
        Files.writeString(file, "public final class Example {\npublic static String run() {\n" + example
            + "java.util.Map<String, String> all = new java.util.TreeMap<>();\n" + kept + "return all.toString();\n}\n}\n");
        String classPath = System.getProperty("java.class.path");
        int failed = ToolProvider.getSystemJavaCompiler()
            .run(null, null, null, "-cp", classPath, "-d", EXAMPLE.toString(), file.toString());
        if (failed != 0) {
            return "does not compile";
        }
        try (URLClassLoader loader = new URLClassLoader(new URL[] {EXAMPLE.toUri().toURL()})) {
            return (String) loader.loadClass("Example").getMethod("run").invoke(null);
        }
    }

    private static void table(String text) {
        check.about("the table of calls");
        Map<String, Method> face = new TreeMap<>();
        for (Method method : TwistDesk.class.getDeclaredMethods()) {
            if (Modifier.isPublic(method.getModifiers())) {
                face.put(method.getName(), method);
            }
        }
        Matcher rows = Pattern.compile("(?m)^\\| `(\\w+ (\\w+)\\((.*?)\\))` \\| (.*?) \\| (.*?)\\|$").matcher(text);
        while (rows.find()) {
            Method method = face.remove(rows.group(2));
            check.due(rows.group(1) + " is a call", method != null, true);
            if (method != null) {
                row(method, rows.group(1), rows.group(3), rows.group(5));
            }
        }
        check.due("calls without a row", face.keySet().toString(), "[]");
    }

    private static void row(Method method, String call, String parameters, String thrown) {
        check.due(call + ", its types", call.replaceAll("(\\w+) \\w+(?=[,)])", "$1"), head(method));
        boolean takesRegister = Arrays.stream(parameters.split(", "))
            .anyMatch(one -> REGISTER_NAMES.contains(one.replaceAll(".* ", "")));
        List<String> due = Arrays.stream(method.getExceptionTypes()).map(Class::getSimpleName)
            .collect(Collectors.toCollection(ArrayList::new));
        check.due(call + " takes a register", takesRegister, due.remove("NoSuchElementException"));
        List<String> named = Pattern.compile("\\w+Exception").matcher(thrown).results().map(found -> found.group()).toList();
        check.due(call + ", what else it throws", named.toString(), due.toString());
    }

    private static String head(Method method) {
        return method.getReturnType() + " " + method.getName() + "("
            + Arrays.stream(method.getParameterTypes()).map(Class::getName).collect(Collectors.joining(", ")) + ")";
    }

    private static void tests(String text) throws IOException {
        check.about("the list of tests");
        Set<String> named = new TreeSet<>();
        Matcher lines = Pattern.compile("(?m)^- `(\\w+Test)`:").matcher(text);
        while (lines.find()) {
            named.add(lines.group(1));
        }
        try (var files = Files.list(TESTS)) {
            Set<String> there = files.map(file -> file.getFileName().toString().replace(".java", ""))
                .filter(name -> name.endsWith("Test")).collect(Collectors.toCollection(TreeSet::new));
            check.due("tests that are named", named.toString(), there.toString());
        }
        check.due("the command is told", text.contains("\n    .ci/run\n"), true);
    }
}

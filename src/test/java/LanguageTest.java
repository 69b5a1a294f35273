import java.io.IOException;
import java.lang.reflect.Executable;
import java.lang.reflect.Field;
import java.lang.reflect.Modifier;
import java.nio.file.Files;
import java.nio.file.Path;
import java.util.ArrayList;
import java.util.Arrays;
import java.util.List;
import java.util.Set;
import java.util.TreeSet;
import java.util.regex.Matcher;
import java.util.regex.Pattern;

/** The rules of LANGUAGE.md that can be read off the source's text or off the compiled class. */
public final class LanguageTest {
    private static final Path SOURCE = Path.of("src/main/java/TwistDesk.java");
    private static final Set<String> IMPORTS = Set.of("java.util.Arrays", "java.util.NoSuchElementException");
    private static final Set<String> CALLED = Set.of("Arrays.fill", "Math.floorMod");
    private static final Set<String> THROWN =
        Set.of("IllegalStateException", "IllegalArgumentException", "NoSuchElementException");
    private static final String[] BARRED = {"package", "try", "catch", "finally", "synchronized", "assert", "instanceof",
        "Object", "Thread", "Random", "System", "native", "volatile", "transient", "strictfp", "double", "float"};

    private static final Check check = new Check("LanguageTest");

    public static void main(String[] args) throws IOException {
        String code = withoutCommentsAndTexts(Files.readString(SOURCE));
        check.due("one file under src/main", filesUnderMain(), 1);
        imports(code);
        words(code);
        thrown(code);
        methodLengths(code);
        for (Class<?> type : classes()) {
            fields(type);
            parameters(type);
        }
        check.end();
    }

    private static String withoutCommentsAndTexts(String text) {
        return text.replaceAll("\"[^\"\n]*\"", "\"\"").replaceAll("(?s)/\\*.*?\\*/", "").replaceAll("//[^\n]*", "");
    }

    private static long filesUnderMain() throws IOException {
        try (var files = Files.walk(Path.of("src/main"))) {
            return files.filter(Files::isRegularFile).count();
        }
    }

    private static List<Class<?>> classes() {
        List<Class<?>> all = new ArrayList<>(Arrays.asList(TwistDesk.class.getDeclaredClasses()));
        all.add(TwistDesk.class);
        check.due("rule 11: at most twelve classes", all.size() <= 12, true);
        return all;
    }

    private static void imports(String code) {
        check.about("rule 4");
        Matcher imports = Pattern.compile("import ([^;]*);").matcher(code);
        while (imports.find()) {
            check.due("import " + imports.group(1), IMPORTS.contains(imports.group(1)), true);
        }
        Matcher calls = Pattern.compile("\\b(Arrays|Math|Integer|Long|String|System)\\.\\w+(?=\\()").matcher(code);
        while (calls.find()) {
            check.due("call of " + calls.group(), CALLED.contains(calls.group()), true);
        }
    }

    private static void words(String code) {
        check.about("rules 2, 6 and 13");
        check.due("no lambda", code.contains("->"), false);
        check.due("no method reference", code.contains("::"), false);
        Set<String> words = new TreeSet<>(Arrays.asList(code.split("\\W+")));
        for (String word : BARRED) {
            check.due("the word " + word, words.contains(word), false);
        }
    }

    private static void thrown(String code) {
        check.about("rule 6");
        Matcher all = Pattern.compile("\\bthrow\\b([^;]*);").matcher(code);
        Pattern form = Pattern.compile(" new (\\w+)\\((\"\")?\\)");
        while (all.find()) {
            Matcher one = form.matcher(all.group(1));
            check.due("throw" + all.group(1), one.matches() && THROWN.contains(one.group(1)), true);
        }
    }

    /** A method ends where a brace stands as far in as the line of its head does. */
    private static void methodLengths(String code) {
        check.about("rule 11");
        Matcher methods = Pattern.compile("(?ms)^( {4}| {8})(?=[a-z])[^\n;={}]*\\([^;{}]*\\{\n.*?^\\1\\}").matcher(code);
        int found = 0;
        while (methods.find()) {
            long lines = methods.group().lines().count();
            check.due(methods.group().lines().findFirst().orElse("") + " is short", lines <= 60, true);
            found++;
        }
        check.due("methods were found", found > 20, true);
    }

    private static void fields(Class<?> type) {
        int own = 0;
        for (Field field : type.getDeclaredFields()) {
            check.about("rule 5");
            boolean isStatic = Modifier.isStatic(field.getModifiers());
            check.due(field + " static and not final", isStatic && !Modifier.isFinal(field.getModifiers()), false);
            own += isStatic ? 0 : 1;
        }
        check.about("rule 11");
        check.due("some twenty fields in " + type, own <= 20, true);
    }

    private static void parameters(Class<?> type) {
        check.about("rule 11");
        List<Executable> all = new ArrayList<>(Arrays.asList(type.getDeclaredMethods()));
        all.addAll(Arrays.asList(type.getDeclaredConstructors()));
        for (Executable one : all) {
            check.due("at most seven parameters in " + one, one.getParameterCount() <= 7, true);
        }
    }
}

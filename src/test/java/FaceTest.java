import java.lang.reflect.Constructor;
import java.lang.reflect.Field;
import java.lang.reflect.Method;
import java.lang.reflect.Modifier;
import java.util.Arrays;
import java.util.Set;
import java.util.TreeSet;
import java.util.stream.Collectors;

/** The face of the class: what the document lists, with its exceptions, and nothing else that is not private. */
public final class FaceTest {
    private static final String[] FACE = {
        "int begin(int) IllegalArgumentException",
        "void put(int,int,int) NoSuchElementException,IllegalArgumentException",
        "void unpack(int,int) NoSuchElementException,IllegalArgumentException",
        "int packed(int) NoSuchElementException",
        "int get(int,boolean) NoSuchElementException",
        "int join(int,int,int,boolean) NoSuchElementException",
        "int times(int,long,int) NoSuchElementException",
        "int both(int,long,int,long,int) NoSuchElementException",
        "int order(int) NoSuchElementException",
        "int points() ",
        "int base() ",
        "int log(int,int) NoSuchElementException",
        "int half(int,int) NoSuchElementException",
        "long sign(int,int,int) NoSuchElementException,IllegalArgumentException,IllegalStateException",
        "boolean verify(int,int,int,long) NoSuchElementException,IllegalArgumentException",
        "int count(int) "};

    public static void main(String[] args) {
        Check check = new Check("FaceTest");
        check.due("the class", Modifier.toString(TwistDesk.class.getModifiers()), "public final");
        check.due("the methods", openMethods().toString(), new TreeSet<>(Arrays.asList(FACE)).toString());
        check.due("fields that are not private", openFields().toString(), "[]");
        Constructor<?>[] constructors = TwistDesk.class.getDeclaredConstructors();
        check.due("constructors", constructors.length, 1);
        check.due("the constructor", constructors[0].toString(), "public TwistDesk()");
        for (Class<?> inside : TwistDesk.class.getDeclaredClasses()) {
            check.due(inside + " is static", Modifier.isStatic(inside.getModifiers()), true);
            check.due(inside + " is closed", Modifier.isPublic(inside.getModifiers()), false);
        }
        check.due("private methods with a name of the face", doubleNames().toString(), "[]");
        check.end();
    }

    private static Set<String> openMethods() {
        Set<String> open = new TreeSet<>();
        for (Method method : TwistDesk.class.getDeclaredMethods()) {
            if (!Modifier.isPrivate(method.getModifiers())) {
                open.add(method.getReturnType().getSimpleName() + " " + method.getName()
                    + "(" + names(method.getParameterTypes()) + ") " + names(method.getExceptionTypes()));
            }
        }
        return open;
    }

    private static Set<String> openFields() {
        Set<String> open = new TreeSet<>();
        for (Field field : TwistDesk.class.getDeclaredFields()) {
            if (!Modifier.isPrivate(field.getModifiers())) {
                open.add(field.getName());
            }
        }
        return open;
    }

    private static Set<String> doubleNames() {
        Set<String> doubled = new TreeSet<>();
        for (Method method : TwistDesk.class.getDeclaredMethods()) {
            boolean known = Arrays.stream(FACE).anyMatch(line -> line.contains(" " + method.getName() + "("));
            if (known && Modifier.isPrivate(method.getModifiers())) {
                doubled.add(method.getName());
            }
        }
        return doubled;
    }

    private static String names(Class<?>[] types) {
        return Arrays.stream(types).map(Class::getSimpleName).collect(Collectors.joining(","));
    }
}

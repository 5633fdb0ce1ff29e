import java.lang.reflect.Constructor;
import java.lang.reflect.Field;
import java.lang.reflect.Method;
import java.lang.reflect.Modifier;
import java.util.Arrays;
import java.util.TreeSet;

/** The public face is that of the document, and nothing more can be seen from outside. */
public final class FaceTest {
    private static final String[] FACE = {
        "int set(int, int) throws IllegalArgumentException",
        "int push(int, int, boolean) throws IndexOutOfBoundsException, IllegalArgumentException, IllegalStateException",
        "int pop(int, boolean) throws IndexOutOfBoundsException, NoSuchElementException, IllegalStateException",
        "int drop() throws IllegalStateException",
        "int clear()",
        "int version(int, int) throws IndexOutOfBoundsException, IllegalArgumentException",
        "int value(int) throws IndexOutOfBoundsException, IllegalStateException",
        "int at(int, int) throws IndexOutOfBoundsException",
        "int steps(int, int) throws IndexOutOfBoundsException",
        "int count(int) throws IllegalArgumentException",
        "int setting(int) throws IllegalArgumentException",
        "int common(int, int) throws IndexOutOfBoundsException",
        "boolean same(int, int) throws IndexOutOfBoundsException",
        "int firstLike(int) throws IndexOutOfBoundsException",
        "int worst(int) throws IndexOutOfBoundsException",
        "double mean(int) throws IndexOutOfBoundsException",
        "int append(int) throws IllegalArgumentException, IllegalStateException",
        "int clearText()",
        "int run(int) throws IndexOutOfBoundsException",
        "int stalls(int, int) throws IndexOutOfBoundsException, IllegalArgumentException, IllegalStateException",
        "int worstWith(int, int) throws IndexOutOfBoundsException, IllegalArgumentException, IllegalStateException",
        "int leastRate(int) throws IndexOutOfBoundsException, IllegalStateException",
        "int undo() throws IllegalStateException",
        "long digest()"
    };

    private static final Checks checks = new Checks("FaceTest");

    private FaceTest() {
    }

    public static void main(String[] arguments) {
        checks.equal("the class", Modifier.toString(EndVersions.class.getModifiers()), "public final");
        checks.equal("the methods", visibleMethods(), new TreeSet<>(Arrays.asList(FACE)));
        checks.equal("the fields", visibleFields(), new TreeSet<>(Arrays.asList("public static final int NONE")));
        constructors();
        hiddenNames();
        checks.end();
    }

    private static TreeSet<String> visibleMethods() {
        TreeSet<String> found = new TreeSet<>();
        for (Method method : EndVersions.class.getDeclaredMethods()) {
            if (!Modifier.isPrivate(method.getModifiers()) && !method.isSynthetic()) {
                found.add(told(method));
            }
        }
        return found;
    }

    private static String told(Method method) {
        String face = method.getReturnType().getSimpleName() + " " + method.getName()
            + "(" + names(method.getParameterTypes()) + ")";
        String thrown = names(method.getExceptionTypes());
        return thrown.isEmpty() ? face : face + " throws " + thrown;
    }

    private static String names(Class<?>[] kinds) {
        StringBuilder told = new StringBuilder();
        for (Class<?> kind : kinds) {
            told.append(told.length() == 0 ? "" : ", ").append(kind.getSimpleName());
        }
        return told.toString();
    }

    private static TreeSet<String> visibleFields() {
        TreeSet<String> found = new TreeSet<>();
        for (Field field : EndVersions.class.getDeclaredFields()) {
            if (!Modifier.isPrivate(field.getModifiers()) && !field.isSynthetic()) {
                found.add(Modifier.toString(field.getModifiers()) + " " + field.getType() + " " + field.getName());
            }
        }
        return found;
    }

    private static void constructors() {
        Constructor<?>[] found = EndVersions.class.getDeclaredConstructors();
        checks.equal("constructors", found.length, 1);
        checks.equal("the constructor's parameters", found[0].getParameterCount(), 0);
        checks.equal("the constructor is public", Modifier.isPublic(found[0].getModifiers()), true);
    }

    private static void hiddenNames() {
        TreeSet<String> open = new TreeSet<>();
        for (Method method : EndVersions.class.getMethods()) {
            open.add(method.getName());
        }
        TreeSet<String> twice = new TreeSet<>();
        for (Class<?> inside : EndVersions.class.getDeclaredClasses()) {
            checks.equal(inside.getSimpleName() + " is private", Modifier.isPrivate(inside.getModifiers()), true);
            addNamesOf(inside, open, twice);
        }
        for (Method method : EndVersions.class.getDeclaredMethods()) {
            if (Modifier.isPrivate(method.getModifiers()) && open.contains(method.getName())) {
                twice.add(method.getName());
            }
        }
        checks.equal("names of hidden methods that are open ones", twice, new TreeSet<String>());
    }

    private static void addNamesOf(Class<?> inside, TreeSet<String> open, TreeSet<String> twice) {
        for (Method method : inside.getDeclaredMethods()) {
            if (open.contains(method.getName())) {
                twice.add(method.getName());
            }
        }
    }
}

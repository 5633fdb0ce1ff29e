import java.io.IOException;
import java.nio.file.Files;
import java.nio.file.Path;
import java.util.List;

/** The class keeps to ../shared/LANGUAGE.md, as far as its source shows it, and the rules find what breaks them. */
public final class LanguageTest {
    private static final Checks checks = new Checks("LanguageTest");

    private LanguageTest() {
    }

    public static void main(String[] arguments) throws IOException {
        Path file = Path.of(arguments.length > 0 ? arguments[0] : "src/main/java/EndVersions.java");
        LanguageSource source = new LanguageSource(Files.readString(file));
        checks.equal("what the compiler has against the class", source.errors(), List.of());
        checks.equal("what the rules have against the class", LanguageRules.against(source), List.of());
        plainClass();
        brokenMembers();
        brokenStatements();
        brokenNumbers();
        checks.end();
    }

    private static String within(String members) {
        return "public final class EndVersions { public EndVersions() { } " + members + " }";
    }

    private static void right(String members) throws IOException {
        LanguageSource source = new LanguageSource(within(members));
        checks.equal("errors of " + members, source.errors(), List.of());
        checks.equal("the rules against " + members, LanguageRules.against(source), List.of());
    }

    private static void wrong(int rule, String members) throws IOException {
        wrongFile(rule, within(members));
    }

    private static void wrongFile(int rule, String words) throws IOException {
        LanguageSource source = new LanguageSource(words);
        checks.equal("errors of " + words, source.errors(), List.of());
        boolean told = false;
        for (String one : LanguageRules.against(source)) {
            told |= one.startsWith("rule " + rule + ":");
        }
        checks.equal("the rule " + rule + " finds " + words, told, true);
    }

    private static String inMethod(String statements) {
        return "int asked(int a, int[] r, String s) { " + statements + " return a; }";
    }

    private static void plainClass() throws IOException {
        right("");
        right("private static final class Room { int held = 0; private final int[] row = new int[40]; Room() { } }"
            + " private final Room room = new Room();");
        right(inMethod("for (int i = 0; i < 9 && a > 0; i++) { a = Math.max(a, i) / 2; }"));
        right(inMethod("if (a >= 0 && a < r.length) { r[a] = 1; }"));
        right(inMethod("if (a <= 0) { return 0; } double d = 1.0 / (double) a;"));
        right(inMethod("if (a < 0) { throw new IllegalArgumentException(\"a written text\"); }"));
    }

    private static void brokenMembers() throws IOException {
        wrongFile(1, "package ends; " + within(""));
        wrongFile(1, within("") + " class Other { }");
        wrongFile(4, "import java.util.HashMap; " + within(""));
        wrong(1, "private final class Room { }");
        wrong(1, "public static final class Room { }");
        wrong(2, "private enum Kind { ONE }");
        wrong(2, "Object made() { return new Object() { }; }");
        wrong(2, inMethod("class Local { }"));
        wrong(3, "private final int[][][] cube = new int[2][2][2];");
        wrong(3, "private final String[] names = new String[2];");
        wrong(3, "private final Object some = null;");
        wrong(5, "private static int calls = 0;");
        wrong(5, "private static final int[] TABLE = new int[3];");
        wrong(5, "static { }");
        wrong(6, "public String toString() { return null; }");
        wrong(6, "synchronized int held() { return 1; }");
        wrong(11, "int many(int a, int b, int c, int d, int e, int f, int g, int h) { return 0; }");
        wrong(11, inMethod("a++;\n".repeat(60)));
        wrong(11, fields(21));
        right(fields(20));
        wrong(11, classes(12));
        right(classes(11));
        wrong(8, "int even(int a) { return a < 1 ? 1 : odd(a - 1); }"
            + " int odd(int a) { return a < 1 ? 0 : even(a - 1); }");
        wrong(11, chain(9));
        right(chain(8));
    }

    private static String fields(int number) {
        StringBuilder words = new StringBuilder();
        for (int i = 0; i < number; i++) {
            words.append("private int field").append(i).append(" = 0; ");
        }
        return words.toString();
    }

    private static String classes(int number) {
        StringBuilder words = new StringBuilder();
        for (int i = 1; i <= number; i++) {
            words.append("private static final class A").append(i).append(" { } ");
        }
        return words.toString();
    }

    /** Methods of which each but the last one calls the next one. */
    private static String chain(int number) {
        StringBuilder words = new StringBuilder();
        for (int i = 1; i < number; i++) {
            words.append("int m").append(i).append("() { return m").append(i + 1).append("(); } ");
        }
        return words.append("int m").append(number).append("() { return 1; }").toString();
    }

    private static void brokenStatements() throws IOException {
        wrong(2, inMethod("Runnable r2 = () -> { };"));
        wrong(2, inMethod("java.util.function.Supplier<String> t = s::trim;"));
        wrong(4, inMethod("a = Math.addExact(a, 1);"));
        wrong(4, inMethod("long t = System.nanoTime();"));
        wrong(4, inMethod("System.out.println(a);"));
        wrong(4, inMethod("s = \"\u00e9\";"));
        wrong(6, inMethod("synchronized (this) { a++; }"));
        wrong(6, inMethod("assert a > 0;"));
        wrong(6, inMethod("try { a++; } finally { a--; }"));
        wrong(6, inMethod("try { a++; } catch (RuntimeException e) { a--; }"));
        wrong(6, inMethod("if (a > 1) { throw new NullPointerException(); }"));
        wrong(6, inMethod("if (a > 1) { throw new IllegalStateException(s); }"));
        wrong(6, inMethod("if (s == \"x\") { a++; }"));
        wrong(6, "EndVersions(int a) { throw new IllegalStateException(); }");
    }

    private static void brokenNumbers() throws IOException {
        wrong(3, inMethod("double d = Math.max(1.0, 2.0);"));
        wrong(3, inMethod("double d = 1.5 % 2.0;"));
        wrong(7, inMethod("r[a] = 1;"));
        wrong(7, inMethod("a = 1 / a;"));
        wrong(7, inMethod("a %= a;"));
        wrong(7, inMethod("Object o = s; s = (String) o;"));
        wrong(9, inMethod("while (a > 0) { a--; }"));
        wrong(9, inMethod("do { a--; } while (a > 0);"));
        wrong(9, inMethod("for (int i = 0; i != 9; i++) { a++; }"));
        wrong(9, inMethod("for (int i = 0; i < 9; i++) { i = 0; }"));
        wrong(9, inMethod("for (int i = 0; a < 9; i++) { a = 0; }"));
        wrong(10, inMethod("s = s + a;"));
        wrong(10, inMethod("s += a;"));
    }
}

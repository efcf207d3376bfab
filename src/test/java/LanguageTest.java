import java.nio.file.Files;
import java.nio.file.Path;
import java.util.List;

/** The class keeps to what a syntax tree shows of LANGUAGE.md; small samples show that a broken rule is seen. */
public final class LanguageTest {
    // What stands in a class in the face's stead, and the rule that it breaks.
    private static final String[][] SAMPLES = {
        {"1", "int seen;"},
        {"1", "public int a() { return 1; } private int a(int i) { return i; }"},
        {"1", "public static class In { }"},
        {"2", "private class In { }"},
        {"2", "private Runnable r() { return () -> { }; }"},
        {"2", "private java.util.function.IntSupplier s(String t) { return t::length; }"},
        {"2", "private Object o() { return new Object() { }; }"},
        {"3", "private double d;"},
        {"3", "private Object o;"},
        {"3", "private int[][] square;"},
        {"4", "private int a(String s) { return s.hashCode(); }"},
        {"4", "private long a() { return System.nanoTime(); }"},
        {"4", "private int a(int i) { return Math.addExact(i, i); }"},
        {"4", "private StringBuilder a() { return new StringBuilder(); }"},
        {"5", "private static int count;"},
        {"5", "private static final Sample ONE = new Sample();"},
        {"5", "private static final int A; static { A = 1; }"},
        {"6", "Sample() { throw new IllegalStateException(); }"},
        {"6", "private void a() { throw new Error(); }"},
        {"6", "private void a(String s) { throw new RuntimeException(s); }"},
        {"6", "private void a() { a(); try { a(); } catch (RuntimeException e) { return; } }"},
        {"6", "private void a(int i) { try { i++; } finally { i--; } }"},
        {"6", "private void a(int i) { assert i > 0; }"},
        {"6", "private synchronized void b() { synchronized (this) { return; } }"},
        {"6", "private boolean a(String s, String t) { return s == t; }"},
        {"8", "private int a(int i) { return b(i); } private int b(int i) { return a(i); }"},
        {"8", "public int a(int i) { return i > 0 ? a(i - 1) : 0; }"},
        {"9", "private void a() { while (true) { } }"},
        {"9", "private void a() { for (;;) { } }"},
        {"10", "private String a(String s, int i) { return s + i; }"},
        {"11", "private int a(int b, int c, int d, int e, int f, int g, int h, int i) { return b; }"},
        {"11", "private int a(int b) {" + "\n".repeat(60) + "return b; }"},
        {"11", chain(9)},
        {"11", fields(21)},
        {"11", classes(12)},
        {"12", "private int[] row(int n) { return new int[n > 0 ? n : 0]; }"},
        {"12", "private Sample other() { return new Sample(); }"},
    };

    private static final String[] FINE = {chain(8), fields(20), classes(11),
        "private int a(int i) { return i > 0 ? a(i - 1) : 0; }",
        "private int a(int b, int c, int d, int e, int f, int g, int h) {" + "\n".repeat(59) + "return b; }"};

    public static void main(String[] args) throws Exception {
        Check c = new Check("LanguageTest");
        List<String> broken = Language.broken("KillFollows", Files.readString(Path.of("src/main/java/KillFollows.java")));
        c.due("rules that the class breaks: " + broken, broken.size(), 0);
        for (String[] sample : SAMPLES) {
            List<String> found = broken(sample[1]);
            c.due(sample[1] + " breaks rule " + sample[0] + ", found: " + found,
                    found.stream().anyMatch(b -> b.startsWith("rule " + sample[0] + ",")), true);
        }
        for (String sample : FINE) {
            List<String> found = broken(sample);
            c.due(sample + " breaks nothing, found: " + found, found.size(), 0);
        }
        c.end();
    }

    private static List<String> broken(String members) throws Exception {
        return Language.broken("Sample", "public final class Sample {\n" + members + "\n}\n");
    }

    private static String chain(int methods) {
        StringBuilder text = new StringBuilder();
        for (int i = 1; i < methods; i++) {
            text.append("private void a").append(i).append("() { a").append(i + 1).append("(); }\n");
        }
        return text.append("private void a").append(methods).append("() { }").toString();
    }

    private static String fields(int n) {
        StringBuilder text = new StringBuilder();
        for (int i = 0; i < n; i++) {
            text.append("private int f").append(i).append(";\n");
        }
        return text.toString();
    }

    private static String classes(int n) {
        StringBuilder text = new StringBuilder();
        for (int i = 0; i < n; i++) {
            text.append("private static class C").append(i).append(" { }\n");
        }
        return text.toString();
    }
}

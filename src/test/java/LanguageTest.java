import java.io.IOException;
import java.nio.file.Files;
import java.nio.file.Path;
import java.util.List;

/** The class keeps to LANGUAGE.md, as far as that can be seen in its text, and the look at it finds what does not. */
public final class LanguageTest {
    private static final Path SOURCE = Path.of("src/main/java/KnowledgeModel.java");

    /** Members that break a rule, each behind the rule's number. */
    private static final String[] BROKEN = {
        "1 public static class Seen { }",
        "1 class Inner { }",
        "2 private void f() { Runnable r = () -> { }; }",
        "2 private void f() { Runnable r = this::g; } private void g() { }",
        "2 private void f() { class Local { } }",
        "3 private Object any;",
        "3 private int[][][] three;",
        "3 private String[][] texts;",
        "3 private double f(double a) { return a % 2.0; }",
        "3 private java.util.HashMap<Integer, Integer> map;",
        "4 private long f() { return System.nanoTime(); }",
        "4 private double f(double a) { return Math.abs(a); }",
        "4 private int f(int a) { return Math.addExact(a, 1); }",
        "4 private double f() { return Math.random(); }",
        "4 private int f(int[] a) { return java.util.Arrays.hashCode(a); }",
        "4 private String f() { return \"\u00e9\"; }",
        "5 private static int state = 0;",
        "5 private static final int[] ROW = new KnowledgeModel().row; private int[] row;",
        "5 static { }",
        "6 private void f() { throw new SecurityException(); }",
        "6 private void f(int a) { throw new IllegalStateException(String.valueOf(a)); }",
        "6 private void f() { try { f(); } catch (RuntimeException e) { } }",
        "6 private boolean f(String a, String b) { return a == b; }",
        "6 KnowledgeModel() { throw new IllegalStateException(); }",
        "6 private synchronized void g() { } private void f() { synchronized (this) { } }",
        "6 private void f(int a) { assert a > 0; }",
        "8 private int f(int a) { return a < 1 ? 0 : f(a - 1); }",
        "8 int f(int level) { return level > 9 ? 0 : f(level + 1); }",
        "9 private void f() { for (;;) { } }",
        "9 private void f() { while (true) { } }",
        "9 private void f() { do { } while (true); }",
        "10 private String f(int a) { return \"a\" + a; }",
        "11 private void f(int a, int b, int c, int d, int e, int g, int h, int i) { }",
        "11 private void f() { " + "\n".repeat(60) + " }",
        "11 private int a, b, c, d, e, f, g, h, i, j, k, l, m, n, o, p, q, r, s, t, u;",
        "11 private void a() { b(); } private void b() { c(); } private void c() { d(); } private void d() { e(); }"
            + " private void e() { f(); } private void f() { g(); } private void g() { h(); } private void h() { i(); }"
            + " private void i() { }",
        "12 private int[] f() { return new int[3]; }",
        "12 private StringBuilder f() { return new StringBuilder(); }",
        "12 KnowledgeModel() { f(); } private void f() { }",
        "12 KnowledgeModel() { part = new Part(this); } private Part part;"
            + " private static final class Part { Part(KnowledgeModel whole) { } }"
    };

    private static final String[] BROKEN_FILES = {
        "1 package a; public final class KnowledgeModel { }",
        "1 public final class KnowledgeModel { } final class Other { }",
        "4 import java.util.Random; public final class KnowledgeModel { }"
    };

    private static final Check check = new Check();

    public static void main(String[] args) throws IOException {
        check.due("faults of " + SOURCE, LanguageRules.faultsOf(Files.readString(SOURCE)), List.of());
        String empty = "public final class KnowledgeModel { }";
        check.due("faults of an empty class", LanguageRules.faultsOf(empty), List.of());
        for (String told : BROKEN) {
            String members = told.substring(told.indexOf(' '));
            broken(told, "public final class KnowledgeModel {" + members + " }");
        }
        for (String told : BROKEN_FILES) {
            broken(told, told.substring(told.indexOf(' ') + 1));
        }
        check.end("LanguageTest");
    }

    private static void broken(String told, String source) throws IOException {
        String rule = "rule " + told.substring(0, told.indexOf(' '));
        List<String> faults = LanguageRules.faultsOf(source);
        boolean isFound = faults.stream().anyMatch(f -> f.startsWith(rule + ",") || f.startsWith(rule + ":"));
        check.due(told + " is found to break " + rule + " " + (isFound ? "" : faults), isFound, true);
    }
}

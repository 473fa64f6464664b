import java.io.IOException;
import java.nio.file.Files;
import java.nio.file.Path;
import java.util.Set;

/** The class breaks no rule of ../shared/LANGUAGE.md that its text shows; what does so is noticed. */
public final class LanguageTest {
  private static final Check CHECK = new Check();

  /** A rule's number, and members of a class that break it. */
  private static final String[][] BROKEN = {
    {"1", "private final class Inner { }"},
    {"2", "private static int f() { class Local { } return 1; }"},
    {"2", "private static Runnable f() { return () -> { }; }"},
    {"2", "private static Runnable f() { return A::g; } private static void g() { }"},
    {"3", "private int[][][] cube;"},
    {"3", "private static void f() { Object o = null; }"},
    {"3", "private static Object f() { return null; }"},
    {"4", "private static int f(String s) { return s.hashCode(); }"},
    {"4", "private static int f(int n) { return Math.addExact(n, 1); }"},
    {"4", "private static void f() { System.out.println(1); }"},
    {"4", "private static int f(String s) { return Integer.parseInt(s); }"},
    {"4", "private static void f() { new StringBuffer(); }"},
    {"5", "private static int changing;"},
    {"5", "private static final A ONE = null;"},
    {"5", "static { }"},
    {"6", "private static void f() { throw new IllegalStateException(); }"},
    {"6", "private static void f() { try { f(); } catch (RuntimeException e) { } }"},
    {"6", "private static void f() { assert true; }"},
    {"6", "private void f() { synchronized (this) { } }"},
    {"6", "private static class B extends A { } private static int f(A a) { return ((B) a) == a ? 1 : 0; }"},
    {"6", "private static boolean f(String s, String t) { return s == t; }"},
    {"7", "private static int f(int n, int m) { return n / m; }"},
    {"7", "private static int f(int n, int m) { n %= m; return n; }"},
    {"7", "private static int f(int[] a, int i) { return a[i]; }"},
    {"7", "private static int f(int[] a, int i) { return i < 3 ? a[i + 1] : 0; }"},
    {"7", "private static A f() { return null; } private int n; private static int g() { return f().n; }"},
    {"7", "private static int f(A[] a) { return a[0].n; } private int n;"},
    {"7", "private static A f() { return null; } private int n; private static int g() { A a = f(); return a.n; }"},
    {"7", "private int n; private static int f(A[] all) { int s = 0; for (A a : all) { s += a.n; } return s; }"},
    {"7", "private final int[] row; A(int n) { row = new int[n]; }"},
    {"8", "private static int f(int n) { return n <= 0 ? 0 : f(n); }"},
    {"8", "private static int f(int n) { return g(n - 1); } private static int g(int n) { return f(n - 1); }"},
    {"9", "private static void f(boolean b) { while (b) { } }"},
    {"9", "private static void f(boolean b) { do { } while (b); }"},
    {"9", "private static void f() { for (;;) { } }"},
    {"9", "private static void f(int n) { for (int i = 0; n < 5; i++) { } }"},
    {"10", "private static String f(int n) { return \"\" + n; }"},
    {"10", "private static String f(String s) { s += 1; return s; }"},
    {"11", "private static void f(int a, int b, int c, int d, int e, int f, int g, int h) { }"},
    {"11", "private static void f() {" + "\n".repeat(60) + "}"},
    {"11", members("private int f#;", 21)},
    {"11", members("private static class C# { }", 12)},
    {"11", members("private static void m#() { m+(); }", 8) + " private static void m8() { }"},
    {"12", "private static void f() { int[] row = new int[3]; }"},
  };

  /** Members that break no rule: the check must leave them alone. */
  private static final String[] KEPT = {
    "private static int f(int n, int m) { return m < 1 ? 0 : n / m; }",
    "private static int f(int[] a, int i) { return i < 0 || i >= a.length ? 0 : a[i]; }",
    "private static A f() { return null; } private int n; private static int g() { A a = f(); return a == null ? 0 : a.n; }",
    "private static int f(int n) { return n <= 0 ? 0 : f(n - 1); }",
    "private static void f(int n) { for (int i = n; i > 1; i--) { } }",
    "private static int f(int n) { return Math.max(n, Integer.bitCount(n)); }",
    members("private static void m#() { m+(); }", 7) + " private static void m7() { }",
    members("private static class C# { }", 11),
  };

  public static void main(String[] args) throws IOException {
    String source = Files.readString(Path.of("src/main/java/LentQuill.java"));
    Set<String> found = Language.breachesOf("LentQuill", source);
    CHECK.due("breaches of the class " + found, 0, found.size());
    for (String[] broken : BROKEN) {
      Set<String> noticed = Language.breachesOf("A", inClass(broken[1]));
      boolean is = noticed.stream().anyMatch(breach -> breach.startsWith(broken[0] + ": "));
      CHECK.due("rule " + broken[0] + " is noticed " + noticed + ": " + broken[1], 1, is ? 1 : 0);
    }
    for (String members : KEPT) {
      Set<String> noticed = Language.breachesOf("A", inClass(members));
      CHECK.due("breaches " + noticed + " of " + members, 0, noticed.size());
    }
    CHECK.end();
  }

  private static String inClass(String members) {
    return "public class A { " + members + " }";
  }

  /** The member so many times, with its number for '#' and the next one for '+'. */
  private static String members(String member, int times) {
    StringBuilder text = new StringBuilder();
    for (int i = 0; i < times; i++) {
      text.append(member.replace("#", "" + i).replace("+", "" + (i + 1)));
    }
    return text.toString();
  }
}

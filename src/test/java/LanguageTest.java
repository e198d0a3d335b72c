import java.io.IOException;
import java.nio.file.Files;
import java.nio.file.Path;
import java.util.List;

/** The class keeps to LANGUAGE.md; and sources that do not are told from it, each by its rule. */
public final class LanguageTest {
  private static int checked;
  private static int wrong;

  public static void main(String[] args) throws IOException {
    String source = Files.readString(Path.of("src/main/java/LiveCollections.java"));
    keeps("the class", source);
    keeps("nothing but the class", around(""));
    keeps("one of all sorts", around(OF_ALL_SORTS));
    members();
    types();
    calls();
    exceptions();
    loopsAndRecursion();
    sizes();
    System.out.println("LanguageTest: " + checked + " sources, " + wrong + " wrong");
    System.exit(wrong == 0 && checked > 0 ? 0 : 1);
  }

  private static final String OF_ALL_SORTS =
      """
      private static final int MOST = 3 * 2;
      private final int[] row;
      private Own own;
      private double last;
      public LiveCollections() { row = new int[MOST]; own = new Own(MOST); }
      public int first(int i) throws IllegalStateException {
        if (i < 0 || i >= row.length) { throw new IllegalStateException("no such place"); }
        for (int k = 0; k < i; k++) { row[k] += Math.max(k, i); }
        last = (double) row[i] / 2;
        switch (i) { case 0: return down(i); default: return own == null ? 0 : own.most; }
      }
      private static int down(int i) { return i <= 0 ? 0 : down(i - 1); }
      private static final class Own {
        final int most;
        Own(int most) { this.most = most; }
      }
      """;

  private static String around(String members) {
    return "public final class LiveCollections {\n" + members + "}\n";
  }

  private static void members() {
    refused("rule 1", "package a;\n" + around(""));
    refused("rule 1", around("") + "class Other {}\n");
    refused("rule 1", around("public int a() { return 1; } private int a(int i) { return i; }"));
    refused("rule 1", around("final class Own {}"));
    refused("rule 1", around("public static final class Own {}"));
    refused("rule 2", around("private int a() { class Own {} return 1; }"));
    refused("rule 2", around("private Object a() { return new Object() {}; }"));
    refused("rule 2", around("private Runnable a() { return () -> {}; }"));
    refused("rule 2", around("private Runnable a() { return this::b; } private void b() {}"));
    refused("rule 5", around("private static int a;"));
    refused("rule 5", around("private static final int A = Math.max(1, 2);"));
    refused("rule 5", around("private static final double A = 1.5;"));
    refused("rule 5", around("private static final LiveCollections A = new LiveCollections();"));
    refused("rule 5", around("private static final int A; static { A = 1; }"));
    refused("rule 6", around("public String toString() { return null; }"));
    refused("rule 6", around("public boolean equals(Object o) { return true; }"));
    refused("rule 6", around("public int hashCode() { return 1; }"));
    refused("rule 6", around("private synchronized void a() {}"));
    refused("rule 12", around("LiveCollections() { b(); } private void b() {}"));
    String handed = "private static void a(LiveCollections x) {}";
    refused("rule 12", around("LiveCollections() { a(this); } " + handed));
  }

  private static void types() {
    refused("rule 3", around("private Object a;"));
    refused("rule 3", around("private LiveCollections[][] a;"));
    refused("rule 3", around("private int[][][] a;"));
    refused("rule 3", around("private void a(int... i) {}"));
    refused("rule 3", around("private Thread a() { return null; }"));
    refused("rule 3", around("private double a(double x) { return Math.max(x, 1.5); }"));
    refused("rule 2", around("private double a(double x) { return x % 2.0; }"));
    refused("rule 10", around("private void a() { b(\"a\" + 1); } private void b(String s) {}"));
  }

  private static void calls() {
    refused("rule 4", "import java.util.HashMap;\n" + around(""));
    refused("rule 4", "import java.util.*;\n" + around(""));
    refused("rule 4", "import static java.lang.Math.max;\n" + around(""));
    refused("rule 4", around("private long a() { return System.nanoTime(); }"));
    refused("rule 4", around("private double a() { return Math.random(); }"));
    refused("rule 4", around("private int a() { return Math.addExact(1, 2); }"));
    refused("rule 4", around("private int a() { return hashCode(); }"));
    refused("rule 4", around("private void a() { System.out.println(); }"));
    refused("rule 4", around("private int a() { return Integer.MAX_VALUE; }"));
    refused("rule 4", around("private void a() { new Thread(); }"));
  }

  private static void exceptions() {
    refused("rule 6", around("private void a() { throw new Error(); }"));
    refused("rule 6", around("private void a() { throw new IllegalStateException(\"\" + 1); }"));
    refused("rule 6", around("private void a(RuntimeException e) { throw e; }"));
    refused("rule 6", around("LiveCollections() { throw new RuntimeException(); }"));
    refused("rule 6", around("private static final class Own extends RuntimeException {}"));
    refused("rule 2", around("private void a() { try { a(); } finally { a(); } }"));
    refused("rule 2", around("private void a() { synchronized (this) { a(); } }"));
    refused("rule 2", around("private void a(int i) { assert i > 0; }"));
    refused("rule 6", around("private Own a(Object o) { return (Own) o; } static class Own {}"));
    refused("rule 7", around("private int a(int i) { return 7 / i; }"));
    refused("rule 7", around("private int a(int i) { return i / 0; }"));
  }

  private static void loopsAndRecursion() {
    refused("rule 9", around("private void a() { while (true) { a(); } }"));
    refused("rule 9", around("private void a() { for (;;) { a(); } }"));
    refused("rule 9", around("private void a() { do { a(); } while (true); }"));
    refused("rule 8", around("public void a(int i) { if (i > 0) { a(i - 1); } }"));
    refused("rule 8", around("public void a() { b(); } private void b() { a(); }"));
    String loop = "for (int i = 0; i < 3; i++) { ";
    refused("rule 12", around("private void a() { " + loop + "new LiveCollections(); } }"));
    refused("rule 12", around("private void a(int[] r) { " + loop + "r = new int[3]; } }"));
  }

  private static void sizes() {
    String seven = "private void a(int a, int b, int c, int d, int e, int f, int g";
    keeps("7 parameters", around(seven + ") {}"));
    refused("rule 11", around(seven + ", int h) {}"));
    keeps("60 lines", around("private void a() {" + "\n".repeat(59) + "}"));
    refused("rule 11", around("private void a() {" + "\n".repeat(60) + "}"));
    keeps("20 fields", around(numbered("private int i%d;", 20)));
    refused("rule 11", around(numbered("private int i%d;", 21)));
    keeps("12 classes", around(numbered("private static final class C%d {}", 11)));
    refused("rule 11", around(numbered("private static final class C%d {}", 12)));
    keeps("8 deep", around(deep(8)));
    refused("rule 11", around(deep(9)));
  }

  private static String numbered(String member, int many) {
    StringBuilder members = new StringBuilder();
    for (int i = 1; i <= many; i++) {
      members.append(member.formatted(i)).append('\n');
    }
    return members.toString();
  }

  private static String deep(int many) {
    StringBuilder members = new StringBuilder("private void a1() {}\n");
    for (int i = 2; i <= many; i++) {
      members.append("private void a%d() { a%d(); }\n".formatted(i, i - 1));
    }
    return members.toString();
  }

  private static void keeps(String title, String source) {
    check(title + " keeps to the rules", true, faults(source), source);
  }

  private static void refused(String rule, String source) {
    List<String> faults = faults(source);
    boolean told = faults.stream().anyMatch(fault -> fault.startsWith(rule + ":"));
    check(rule + " is broken", told, told ? List.of() : faults, source);
  }

  private static List<String> faults(String source) {
    try {
      return Language.faults("LiveCollections", source);
    } catch (IOException e) {
      throw new IllegalStateException(e);
    }
  }

  private static void check(String what, boolean told, List<String> faults, String source) {
    checked++;
    if (!told || !faults.isEmpty()) {
      wrong++;
      System.out.println(what + ", but: " + faults);
      System.out.println(source.length() < 500 ? source : "");
    }
  }
}

import java.io.IOException;
import java.nio.file.Files;
import java.nio.file.Path;
import java.util.Set;

/** The class keeps to ../shared/LANGUAGE.md, as far as its source shows it. */
final class LanguageTest {
  private static final Path SOURCE = Path.of("src/main/java/HeavyHaul.java");

  private final Check check = new Check();

  public static void main(String[] args) throws IOException {
    LanguageTest test = new LanguageTest();
    test.classKeepsToTheRules();
    test.whatIsAllowedIsNoBreach();
    test.eachBreachIsSeen();
    test.eachSizeIsSeen();
    test.check.close("LanguageTest");
  }

  private void classKeepsToTheRules() throws IOException {
    String source = Files.readString(SOURCE);
    check.same("what the class breaks", "[]", LanguageScan.breachesOf(source).toString());
    // Rule 1 and 'The public face': the file has no package line.
    check.due("a package line", 0, () -> Check.number(source.contains("package ")));
  }

  private static Set<String> breaches(String members) {
    return LanguageScan.breachesOf("import java.util.ArrayList;\nimport java.util.Arrays;\n"
        + "public final class HeavyHaul {\n" + members + "\n}\n");
  }

  private void whatIsAllowedIsNoBreach() {
    allowed("private final ArrayList<Part> parts = new ArrayList<>();"
        + " private static final class Part { final int size = 1; }"
        + " int sum() { int s = 0;"
        + " for (int i = 0; i < parts.size(); i++) { s += parts.get(i).size; } return s; }");
    allowed("private static final int[] ROW = {1, 2}; int[] row() { return ROW.clone(); }");
    allowed("private final int[] row = new int[4]; void clear() { Arrays.fill(row, 0); }");
    allowed("void refuse() { throw new IllegalStateException(\"no\"); }"
        + " int tried() { try { refuse(); return 1; }"
        + " catch (IllegalStateException e) { return 0; } }");
    allowed("int most(int a, int b) { return Math.max(a, b); }");
    allowed("boolean same(String a) { return a.equals(\"b\"); }");
  }

  private void allowed(String members) {
    check.same(members, "[]", breaches(members).toString());
  }

  /** Without these a scan that sees nothing would pass as well. */
  private void eachBreachIsSeen() {
    String made = "private interface Made { int by(); } ";
    seen(2, made + "int a() { Made s = () -> 1; return s.by(); }");
    seen(2, made + "void a() { Made s = this::b; } int b() { return 1; }");
    seen(3, "private final java.util.HashMap<String, String> map = null;");
    seen(3, "private Object a() { return null; }");
    seen(3, "private final ArrayList<String> texts = new ArrayList<>();");
    seen(3, "private final int[][][] deep = null;");
    seen(4, "long a() { return System.nanoTime(); }");
    seen(4, "int a(int b) { return Math.addExact(b, b); }");
    seen(4, "String a() { return String.valueOf(1); }");
    seen(4, "int a() { return new java.util.Random().nextInt(); }");
    seen(4, "String a() { return \"\u00e9\"; }");
    check.same("another import", "[4: import of java.util.HashMap]", LanguageScan.breachesOf(
        "import java.util.HashMap; public final class HeavyHaul { }").toString());
    seen(5, "private static int count = 0;");
    seen(5, "private static final int COUNT; static { COUNT = 1; }");
    seen(5, "private static final ArrayList<Integer> LIST = new ArrayList<>();");
    seen(6, "void a() { throw new ArrayIndexOutOfBoundsException(); }");
    seen(6, "void a(String text) { throw new IllegalStateException(text); }");
    seen(6, "void a() { try { b(); } catch (RuntimeException e) { throw e; } } void b() { }");
    seen(6, "public HeavyHaul() { throw new IllegalStateException(); }");
    seen(6, "void a() { try { b(); } catch (NullPointerException e) { b(); } } void b() { }");
    seen(6, "void a() { try { b(); } catch (Exception e) { b(); } } void b() { }");
    seen(6, "void a() { try { b(); } finally { b(); } } void b() { }");
    seen(6, "void a() { try { throw new RuntimeException(); } catch (RuntimeException e) { } }");
    seen(6, "void a() { synchronized (this) { } }");
    seen(6, "void a() { assert true; }");
    seen(6, "boolean a(String b) { return b == \"c\"; }");
    seen(8, "int a(int b) { return b == 0 ? 0 : a(b - 1); }");
    seen(8, "int a(int b) { return c(b); } int c(int b) { return b == 0 ? 0 : a(b - 1); }");
    seen(9, "void a() { for (;;) { } }");
    seen(9, "void a() { while (true) { } }");
    seen(9, "void a() { do { } while (true); }");
    seen(10, "String a(int b) { return \"b\" + b; }");
    seen(12, "void a() { for (int i = 0; i < 9; i++) { int[] row = new int[9]; } }");
    seen(12, "void a() { for (int i = 0; i < 9; i++) { new ArrayList<Integer>(); } }");
  }

  private void seen(int rule, String members) {
    String got = breaches(members).toString();
    check.same(members + " breaks " + rule, rule + ":", got.substring(1, got.indexOf(':') + 1));
  }

  private void eachSizeIsSeen() {
    size(7, "", "void a(" + joined("int p#", ", ", 7) + ") { }");
    size(8, "11:", "void a(" + joined("int p#", ", ", 8) + ") { }");
    size(60, "", "void a() {\n" + joined("", "\n", 59) + "}");
    size(61, "11:", "void a() {\n" + joined("", "\n", 60) + "}");
    size(11, "", joined("private static final class C# { }", "\n", 11));
    size(12, "11:", joined("private static final class C# { }", "\n", 12));
    size(20, "", joined("private int f#;", "\n", 20));
    size(21, "11:", joined("private int f#;", "\n", 21));
    size(8, "", joined("int a#() { return a#n(); }", "\n", 7) + "int a7() { return 0; }");
    size(9, "11:", joined("int a#() { return a#n(); }", "\n", 8) + "int a8() { return 0; }");
  }

  /** So many times the part, # being its number, #n the next one's. */
  private static String joined(String part, String between, int times) {
    StringBuilder all = new StringBuilder();
    for (int i = 0; i < times; i++) {
      all.append(i == 0 ? "" : between);
      all.append(part.replace("#n", String.valueOf(i + 1)).replace("#", String.valueOf(i)));
    }
    return all.toString();
  }

  private void size(int many, String want, String members) {
    String got = breaches(members).toString();
    check.same(many + " of " + members, "[" + want, got.substring(0, want.length() + 1));
    check.due("no breach at " + many, Check.number(want.isEmpty()),
        () -> Check.number(got.equals("[]")));
  }
}

import java.io.IOException;
import java.lang.reflect.Method;
import java.net.MalformedURLException;
import java.net.URL;
import java.net.URLClassLoader;
import java.nio.file.Files;
import java.nio.file.Path;
import java.util.ArrayList;
import java.util.List;
import java.util.TreeSet;
import java.util.regex.Matcher;
import java.util.regex.Pattern;
import javax.tools.ToolProvider;

/** README.md tells the truth: its example answers as it says, and its table has every call. */
final class ReadmeTest {
  private static final Pattern STATEMENT =
      Pattern.compile("(?:int (\\w+) = )?(haul\\.\\w+\\(.*?\\)); *// (-?\\d+|true|false)\\b.*");
  private static final Pattern ROW = Pattern.compile("\\| `(\\w+)\\(([^)]*)\\)` \\|.*");

  private final Check check = new Check();
  private final String readme;

  private ReadmeTest(String readme) {
    this.readme = readme;
  }

  public static void main(String[] args) throws IOException, ReflectiveOperationException {
    ReadmeTest test = new ReadmeTest(Files.readString(Path.of("README.md")));
    test.exampleAnswersAsItSays();
    test.tableHasEachCall();
    test.testsAreAllTold();
    test.check.close("ReadmeTest");
  }

  private String example() {
    int from = readme.indexOf("```java\n") + 8;
    return readme.substring(from, readme.indexOf("```", from));
  }

  /** Each line whose comment begins with an answer becomes one whose answer is kept. */
  private void exampleAnswersAsItSays() throws IOException, ReflectiveOperationException {
    StringBuilder body = new StringBuilder();
    List<String> calls = new ArrayList<>();
    List<String> wants = new ArrayList<>();
    for (String line : example().split("\n")) {
      Matcher statement = STATEMENT.matcher(line);
      if (!statement.matches()) {
        body.append(line).append('\n');
        continue;
      }
      calls.add(statement.group(2));
      wants.add(statement.group(3));
      String name = statement.group(1);
      body.append(name == null ? "" : "int " + name + " = ").append(
          name == null ? "got.add(String.valueOf(" + statement.group(2) + "));\n"
              : statement.group(2) + "; got.add(String.valueOf(" + name + "));\n");
    }
    List<?> got = answers(body.toString());
    check.due("lines with an answer", 15, () -> calls.size());
    for (int i = 0; i < calls.size(); i++) {
      check.same(calls.get(i), wants.get(i), String.valueOf(got.get(i)));
    }
  }

  private List<?> answers(String body) throws IOException, ReflectiveOperationException {
    Path directory = Files.createTempDirectory(Path.of("build"), "readme");
    Path source = directory.resolve("Example.java");
    Files.writeString(source, "public final class Example {\n"
        + "public static java.util.List<String> told() {\n"
        + "java.util.List<String> got = new java.util.ArrayList<>();\n"
        + body + "return got;\n}\n}\n");
    int failed = ToolProvider.getSystemJavaCompiler().run(null, null, null,
        "-cp", System.getProperty("java.class.path"), "-d", directory.toString(),
        source.toString());
    check.due("the example compiles", 0, () -> failed);
    List<?> told = failed == 0 ? run(directory) : List.of();
    Files.deleteIfExists(directory.resolve("Example.class"));
    Files.deleteIfExists(source);
    Files.deleteIfExists(directory);
    return told;
  }

  private static List<?> run(Path directory)
      throws IOException, ReflectiveOperationException, MalformedURLException {
    URL[] where = {directory.toUri().toURL()};
    try (URLClassLoader loader = new URLClassLoader(where, ReadmeTest.class.getClassLoader())) {
      return (List<?>) loader.loadClass("Example").getMethod("told").invoke(null);
    }
  }

  private void tableHasEachCall() {
    TreeSet<String> told = new TreeSet<>();
    for (String line : readme.split("\n")) {
      Matcher row = ROW.matcher(line);
      if (row.matches()) {
        told.add(row.group(1) + " of " + row.group(2).split(",").length);
      }
    }
    TreeSet<String> calls = new TreeSet<>();
    for (Method method : HeavyHaul.class.getMethods()) {
      if (method.getDeclaringClass() == HeavyHaul.class) {
        calls.add(method.getName() + " of " + method.getParameterCount());
      }
    }
    check.same("the calls of the table", calls.toString(), told.toString());
  }

  private void testsAreAllTold() throws IOException {
    try (var files = Files.newDirectoryStream(Path.of("src/test/java"), "*.java")) {
      for (Path file : files) {
        String name = file.getFileName().toString().replace(".java", "");
        check.due("README.md tells of " + name, 1,
            () -> Check.number(readme.contains("`" + name + "`")));
      }
    }
  }
}

import java.io.ByteArrayOutputStream;
import java.io.IOException;
import java.io.PrintStream;
import java.net.URL;
import java.net.URLClassLoader;
import java.nio.charset.StandardCharsets;
import java.nio.file.Files;
import java.nio.file.Path;
import java.util.ArrayList;
import java.util.List;
import java.util.regex.Matcher;
import java.util.regex.Pattern;
import java.util.stream.Collectors;
import java.util.stream.Stream;
import javax.tools.ToolProvider;

/** README.md: its example compiles and prints what it says, and its table has every test. */
public final class ReadmeTest {
  private static final Path BUILD = Path.of("build/readme");

  public static void main(String[] args) throws Exception {
    String readme = Files.readString(Path.of("README.md"));
    List<String> said = all("// prints (.*)", readme);
    List<String> printed = print(all("(?s)```java\n(.*?)```", readme).get(0));
    boolean same = !said.isEmpty() && said.equals(printed);
    if (!same) {
      System.out.println("the example prints " + printed + ", README.md says " + said);
    }
    List<String> told = all("(?m)^\\| `(\\w+Test)` ", readme).stream().sorted().toList();
    boolean complete = told.equals(tests());
    if (!complete) {
      System.out.println("there are " + tests() + ", README.md says " + told);
    }
    boolean ok = same && complete;
    System.out.println("ReadmeTest: " + (ok ? "as README.md says" : "not as README.md says"));
    System.exit(ok ? 0 : 1);
  }

  private static List<String> all(String pattern, String text) {
    List<String> found = new ArrayList<>();
    Matcher matcher = Pattern.compile(pattern).matcher(text);
    while (matcher.find()) {
      found.add(matcher.group(1));
    }
    return found;
  }

  private static List<String> tests() throws IOException {
    try (Stream<Path> files = Files.list(Path.of("src/test/java"))) {
      return files
          .map(file -> file.getFileName().toString())
          .filter(name -> name.endsWith("Test.java"))
          .map(name -> name.replace(".java", ""))
          .sorted()
          .collect(Collectors.toList());
    }
  }

  /** What the example prints, a line each. */
  private static List<String> print(String example) throws Exception {
    Path file = Files.createDirectories(BUILD).resolve("Example.java");
    Files.writeString(file, example);
    String program = "src/main/java/LiveCollections.java";
    int faults =
        ToolProvider.getSystemJavaCompiler()
            .run(null, null, null, "-d", BUILD.toString(), program, file.toString());
    if (faults != 0) {
      return List.of("nothing, for it does not compile");
    }
    PrintStream console = System.out;
    ByteArrayOutputStream printed = new ByteArrayOutputStream();
    try (URLClassLoader loader = new URLClassLoader(new URL[] {BUILD.toUri().toURL()})) {
      System.setOut(new PrintStream(printed, true, StandardCharsets.UTF_8));
      Class<?> type = loader.loadClass("Example");
      type.getMethod("main", String[].class).invoke(null, (Object) new String[0]);
    } finally {
      System.setOut(console);
    }
    return printed.toString(StandardCharsets.UTF_8).lines().toList();
  }
}

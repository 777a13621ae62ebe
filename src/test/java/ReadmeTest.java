import java.lang.reflect.InvocationTargetException;
import java.net.URL;
import java.net.URLClassLoader;
import java.nio.file.Files;
import java.nio.file.Path;
import java.util.ArrayList;
import java.util.List;
import java.util.Set;
import java.util.TreeSet;
import java.util.regex.Matcher;
import java.util.regex.Pattern;
import java.util.stream.Collectors;
import java.util.stream.Stream;
import javax.tools.ToolProvider;

/** Runs the example of README.md as it is written there, and looks whether README.md names the tests that there are. */
public final class ReadmeTest {
  private static final Path README = Path.of("README.md");
  /** A call, and behind // what it answers. */
  private static final Pattern ANSWERED = Pattern.compile("(x\\.\\w+\\(.*?\\)); *// (\\S+).*");
  private static final Check check = new Check();

  public static void main(String[] args) throws Exception {
    List<String> lines = Files.readAllLines(README);
    List<String> example = example(lines);
    int answers = 0;
    StringBuilder program = new StringBuilder("public final class Example {\n  public static void run(Check check) {\n");
    for (String line : example) {
      Matcher call = ANSWERED.matcher(line);
      if (call.matches()) {
        answers++;
        program.append("check.due(\"").append(call.group(1)).append(", answer ").append(answers).append(" of README.md\", ")
            .append(call.group(1)).append(", \"").append(call.group(2)).append("\");\n");
      } else {
        check.due("a line of the example that tells no answer: " + line, line.contains("//"), false);
        program.append(line).append('\n');
      }
    }
    check.due("whether the example has answers (" + answers + ")", answers >= 30, true);
    run(program.append("  }\n}\n").toString());
    tests(lines);
    check.end();
  }

  /** The lines of the one piece of Java in README.md. */
  private static List<String> example(List<String> lines) {
    List<String> example = new ArrayList<>();
    int from = lines.indexOf("```java");
    check.due("whether README.md has an example", from >= 0, true);
    for (int i = from + 1; i < lines.size() && !lines.get(i).equals("```"); i++) {
      example.add(lines.get(i));
    }
    return example;
  }

  private static void run(String program) throws Exception {
    Path dir = Files.createTempDirectory("readme");
    Path source = dir.resolve("Example.java");
    Path made = dir.resolve("Example.class");
    try {
      Files.writeString(source, program);
      int code = ToolProvider.getSystemJavaCompiler().run(null, null, null, "-proc:none", "-cp",
          System.getProperty("java.class.path"), "-d", dir.toString(), source.toString());
      check.due("javac of the example", code, 0);
      if (code == 0) {
        try (URLClassLoader loader = new URLClassLoader(new URL[] {dir.toUri().toURL()})) {
          loader.loadClass("Example").getMethod("run", Check.class).invoke(null, check);
        } catch (InvocationTargetException e) {
          check.due("the example", e.getCause(), "no exception");
        }
      }
    } finally {
      Files.deleteIfExists(source);
      Files.deleteIfExists(made);
      Files.deleteIfExists(dir);
    }
  }

  /** Each test that there is stands in the table of tests, and no other. */
  private static void tests(List<String> lines) throws Exception {
    Set<String> named = new TreeSet<>();
    for (String line : lines) {
      Matcher row = Pattern.compile("\\| `(\\w+Test)` \\|.*").matcher(line);
      if (row.matches()) {
        named.add(row.group(1));
      }
    }
    try (Stream<Path> files = Files.list(Path.of("src/test/java"))) {
      Set<String> there = files.map(file -> file.getFileName().toString()).filter(name -> name.endsWith(".java"))
          .map(name -> name.replace(".java", "")).collect(Collectors.toCollection(TreeSet::new));
      check.due("the tests that README.md names", named, there);
    }
    check.due("whether README.md tells how the tests are run", lines.contains("    .ci/run"), true);
  }
}

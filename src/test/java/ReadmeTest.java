import java.io.IOException;
import java.lang.reflect.InvocationTargetException;
import java.lang.reflect.Method;
import java.nio.charset.StandardCharsets;
import java.nio.file.Files;
import java.nio.file.Path;
import java.util.Arrays;
import java.util.HashMap;
import java.util.List;
import java.util.Map;
import java.util.Set;
import java.util.TreeSet;
import java.util.regex.Matcher;
import java.util.regex.Pattern;
import java.util.stream.Collectors;
import java.util.stream.Stream;

/** What README.md says holds: each call of its example answers what stands behind it, and its tests are these. */
public final class ReadmeTest {
  private static final String MADE = "GrainElevator elevator = new GrainElevator();";
  private static final Pattern CALL =
      Pattern.compile("(?:int (\\w+) = )?elevator\\.(\\w+)\\((.*?)\\); +// (throws )?'?([^:']+)'?(?:: .*)?");
  private static final Pattern NAMED_TEST = Pattern.compile("(?m)^\\| `(\\w+Test)` \\|");
  private static final Path TESTS = Path.of("src/test/java");

  private final Elevator elevator = new Elevator();
  private final Map<String, Integer> variables = new HashMap<>();

  public static void main(String[] args) throws IOException, IllegalAccessException {
    String readme = Files.readString(Path.of("README.md"), StandardCharsets.UTF_8);
    new ReadmeTest().run(exampleIn(readme));
    Checks.same("the tests that README.md names", testsNamedIn(readme), testsThere());
    Checks.finish("ReadmeTest");
  }

  private static List<String> exampleIn(String readme) {
    String start = "```java\n";
    int from = readme.indexOf(start) + start.length();
    return readme.substring(from, readme.indexOf("```", from)).lines().toList();
  }

  private static Set<String> testsNamedIn(String readme) {
    Set<String> names = new TreeSet<>();
    Matcher matcher = NAMED_TEST.matcher(readme);
    while (matcher.find()) {
      names.add(matcher.group(1));
    }
    return names;
  }

  private static Set<String> testsThere() throws IOException {
    try (Stream<Path> files = Files.list(TESTS)) {
      return files.map(file -> file.getFileName().toString()).filter(name -> name.endsWith("Test.java"))
          .map(name -> name.replace(".java", "")).collect(Collectors.toCollection(TreeSet::new));
    }
  }

  private void run(List<String> rows) throws IllegalAccessException {
    Checks.same("the example's first row", rows.get(0), MADE);
    for (String row : rows.subList(1, rows.size())) {
      if (!row.isEmpty() && !row.startsWith("// ")) {
        call(row);
      }
    }
  }

  private void call(String row) throws IllegalAccessException {
    Matcher parts = CALL.matcher(row);
    Checks.same("whether this is a call and its answer: " + row, parts.matches(), true);
    Object[] arguments = Stream.of(parts.group(3).split(", ")).filter(word -> !word.isEmpty())
        .map(this::valueOf).toArray();
    String due = parts.group(4) == null ? parts.group(5) : "throws." + parts.group(5);
    String got = outcome(methodOf(parts.group(2)), arguments);
    Checks.same("README.md: " + row, got, due);
    if (parts.group(1) != null) {
      variables.put(parts.group(1), Integer.valueOf(got));
    }
  }

  private Object valueOf(String word) {
    if (word.equals("true") || word.equals("false")) {
      return Boolean.valueOf(word);
    }
    return variables.containsKey(word) ? variables.get(word) : Integer.valueOf(word);
  }

  private static Method methodOf(String name) {
    return Arrays.stream(Elevator.class.getMethods()).filter(m -> m.getName().equals(name)).findFirst().orElseThrow();
  }

  private String outcome(Method call, Object[] arguments) throws IllegalAccessException {
    try {
      return String.valueOf(call.invoke(elevator, arguments));
    } catch (InvocationTargetException e) {
      return Checks.thrown(e.getCause());
    }
  }
}

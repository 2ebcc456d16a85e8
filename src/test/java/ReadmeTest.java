import java.io.IOException;
import java.io.UncheckedIOException;
import java.lang.reflect.InvocationTargetException;
import java.lang.reflect.Method;
import java.lang.reflect.Modifier;
import java.nio.charset.StandardCharsets;
import java.nio.file.Files;
import java.nio.file.Path;
import java.util.Arrays;
import java.util.HashMap;
import java.util.List;
import java.util.Map;
import java.util.Set;
import java.util.TreeMap;
import java.util.TreeSet;
import java.util.regex.Matcher;
import java.util.regex.Pattern;
import java.util.stream.Collectors;
import java.util.stream.Stream;

/** What README.md says of the program: its example, the row of each call, and the list of the tests. */
public final class ReadmeTest {
  private static final Path README = Path.of("README.md");
  private static final Path TESTS = Path.of("src/test/java");
  /** A line of the example: perhaps a variable, the call, and a comment that begins with the answer. */
  private static final Pattern EXAMPLE =
      Pattern.compile("(?:int (\\w+) = )?x\\.(\\w+)\\((.*?)\\); +// (throws \\w+|-?\\d+|true|false)\\b.*");
  private static final Pattern ROW_OF_CALL = Pattern.compile("\\| `(\\w+)\\(([^)]*)\\)` \\|[^|]*\\|([^|]*)\\|");
  private static final Pattern ROW_OF_TEST = Pattern.compile("\\| `(\\w+Test)` \\|.*");
  private static final Pattern EXCEPTION = Pattern.compile("\\w+Exception\\b");

  public static void main(String[] args) throws IOException {
    List<String> lines = Files.readAllLines(README, StandardCharsets.UTF_8);
    exampleAnswersAsItSays(lines);
    Expect.due("a row for each call of the face", callsOfFace(), () -> callsOfReadme(lines));
    Expect.due("a row for each test", testsThere(), () -> testsOfReadme(lines));
    Expect.end("ReadmeTest");
  }

  private static void exampleAnswersAsItSays(List<String> lines) {
    int begin = lines.indexOf("Backdater x = new Backdater();");
    Expect.due("README.md has the example", true, () -> begin >= 0);
    Backdater x = new Backdater();
    Map<String, Integer> variables = new HashMap<>();
    for (int at = begin + 1; at < lines.size() && !lines.get(at).equals("```"); at++) {
      String line = lines.get(at);
      Matcher parts = EXAMPLE.matcher(line);
      Expect.due("a call with its answer: " + line, true, parts::matches);
      if (parts.matches()) {
        runLine(x, parts, variables);
      }
    }
    Expect.due("the example's variables", Set.of("policy", "change"), variables::keySet);
  }

  private static void runLine(Backdater x, Matcher parts, Map<String, Integer> variables) {
    String answer = outcome(x, parts.group(2), numbers(parts.group(3), variables));
    Expect.due(parts.group(), parts.group(4), () -> answer);
    if (parts.group(1) != null) {
      variables.put(parts.group(1), Integer.valueOf(answer));
    }
  }

  private static Object[] numbers(String list, Map<String, Integer> variables) {
    return list.isEmpty() ? new Object[0] : Arrays.stream(list.split(", "))
        .map(word -> variables.containsKey(word) ? variables.get(word) : Integer.valueOf(word)).toArray();
  }

  private static String outcome(Backdater x, String name, Object[] numbers) {
    try {
      return String.valueOf(methodNamed(name).invoke(x, numbers));
    } catch (InvocationTargetException thrown) {
      return "throws " + thrown.getCause().getClass().getSimpleName();
    } catch (IllegalAccessException unseen) {
      return "can't be called";
    }
  }

  private static Method methodNamed(String name) {
    return face().filter(method -> method.getName().equals(name)).findFirst().orElseThrow();
  }

  private static Stream<Method> face() {
    return Arrays.stream(Backdater.class.getDeclaredMethods())
        .filter(method -> Modifier.isPublic(method.getModifiers()));
  }

  /** Each call with the count of what is passed, and its throws clause in its order. */
  private static Map<String, String> callsOfFace() {
    Map<String, String> calls = new TreeMap<>();
    face().forEach(method -> calls.put(method.getName() + " " + method.getParameterCount(),
        Arrays.stream(method.getExceptionTypes()).map(Class::getSimpleName).collect(Collectors.joining(" "))));
    return calls;
  }

  private static Map<String, String> callsOfReadme(List<String> lines) {
    Map<String, String> calls = new TreeMap<>();
    for (String line : lines) {
      Matcher row = ROW_OF_CALL.matcher(line);
      if (row.matches()) {
        int passed = row.group(2).isEmpty() ? 0 : row.group(2).split(", ").length;
        calls.put(row.group(1) + " " + passed, EXCEPTION.matcher(row.group(3)).results()
            .map(found -> found.group()).collect(Collectors.joining(" ")));
      }
    }
    return calls;
  }

  private static Set<String> testsThere() {
    try (Stream<Path> files = Files.list(TESTS)) {
      return files.map(file -> file.getFileName().toString().replace(".java", ""))
          .filter(name -> name.endsWith("Test")).collect(Collectors.toCollection(TreeSet::new));
    } catch (IOException unread) {
      throw new UncheckedIOException(unread);
    }
  }

  private static Set<String> testsOfReadme(List<String> lines) {
    return lines.stream().map(ROW_OF_TEST::matcher).filter(Matcher::matches).map(row -> row.group(1))
        .collect(Collectors.toCollection(TreeSet::new));
  }
}

import java.io.IOException;
import java.lang.reflect.Method;
import java.lang.reflect.Modifier;
import java.nio.file.Files;
import java.nio.file.Path;
import java.util.List;
import java.util.regex.Matcher;
import java.util.regex.Pattern;
import java.util.stream.Stream;

/** README.md answers as the class does: its example call by call, its tables by name. */
public final class ReadmeTest {
  private static final Path README = Path.of("README.md");
  private static final Path TESTS = Path.of("src/test/java");
  private static final int FEWEST_CALLS = 20;

  private static final Pattern TYPED =
      Pattern.compile("for \\(char c : \"([^\"]*)\"\\.toCharArray\\(\\)\\) x\\.letter\\(c\\);.*");
  private static final Pattern CALL = Pattern.compile("x\\.(\\w+)\\(([^)]*)\\);\\s*// (-?\\d+)\\b.*");

  public static void main(String[] args) throws IOException, ReflectiveOperationException {
    Check check = new Check();
    List<String> lines = Files.readAllLines(README);
    int from = lines.indexOf("BoundPorts x = new BoundPorts();");
    check.due("the example makes an object", from >= 0 ? 1 : 0, 1);
    example(check, lines.subList(from + 1, lines.size()));
    callsAreNamed(check, String.join("\n", lines));
    testsAreNamed(check, String.join("\n", lines));
    check.end();
  }

  private static void example(Check check, List<String> lines)
      throws ReflectiveOperationException {
    BoundPorts x = new BoundPorts();
    int calls = 0;
    for (String line : lines.subList(0, lines.indexOf("```"))) {
      Matcher typed = TYPED.matcher(line);
      Matcher call = CALL.matcher(line);
      if (typed.matches()) {
        Check.type(x, typed.group(1));
      } else if (call.matches()) {
        calls++;
        check.due(line, answer(x, call.group(1), call.group(2)), Long.parseLong(call.group(3)));
      } else {
        check.due("a line that tells no answer: " + line, 1, 0);
      }
    }
    check.due("the example has calls", calls >= FEWEST_CALLS ? 1 : 0, 1);
  }

  private static long answer(BoundPorts x, String name, String written)
      throws ReflectiveOperationException {
    String[] parts = written.isEmpty() ? new String[0] : written.split(", ");
    for (Method m : BoundPorts.class.getDeclaredMethods()) {
      if (Modifier.isPublic(m.getModifiers()) && m.getName().equals(name)) {
        return ((Number) m.invoke(x, values(parts))).longValue();
      }
    }
    throw new IllegalStateException("the class has no call " + name);
  }

  private static Object[] values(String[] parts) {
    Object[] values = new Object[parts.length];
    for (int i = 0; i < parts.length; i++) {
      boolean truth = parts[i].equals("true") || parts[i].equals("false");
      values[i] = truth ? (Object) Boolean.valueOf(parts[i]) : (Object) Integer.valueOf(parts[i]);
    }
    return values;
  }

  private static void callsAreNamed(Check check, String readme) {
    for (Method m : BoundPorts.class.getDeclaredMethods()) {
      if (Modifier.isPublic(m.getModifiers())) {
        check.due(m.getName() + " is named", readme.contains("`" + m.getName() + "(") ? 1 : 0, 1);
      }
    }
  }

  private static void testsAreNamed(Check check, String readme) throws IOException {
    try (Stream<Path> files = Files.list(TESTS)) {
      for (Path file : files.toList()) {
        String name = file.getFileName().toString().replace(".java", "");
        if (name.endsWith("Test")) {
          check.due(name + " is named", readme.contains("`" + name + "`") ? 1 : 0, 1);
        }
      }
    }
  }
}

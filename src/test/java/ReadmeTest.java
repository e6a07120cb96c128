import java.io.IOException;
import java.lang.reflect.InvocationTargetException;
import java.lang.reflect.Method;
import java.lang.reflect.Modifier;
import java.nio.file.Files;
import java.nio.file.Path;
import java.util.List;
import java.util.Set;
import java.util.TreeSet;
import java.util.regex.Matcher;
import java.util.regex.Pattern;
import java.util.stream.Stream;

/** What README.md says of answers is what the class answers, and it names every test and call. */
public final class ReadmeTest {
  private static final Check check = new Check("ReadmeTest");
  private static final Pattern CALL = Pattern.compile("desk\\.(\\w+)\\((.*?)\\);(?:\\s*// (.*))?");
  private static final Pattern ANSWER = Pattern.compile("answers (-?\\d+).*");
  private static final Pattern THROWS = Pattern.compile("throws (\\w+).*");
  private static final Pattern TEST = Pattern.compile("`(\\w+Test)`");
  private static final Pattern ROW = Pattern.compile("\\| `(\\w+)\\(.*?\\)` \\|.*");

  private static CartridgeDesk desk;

  private ReadmeTest() {}

  public static void main(String[] args) throws IOException, ReflectiveOperationException {
    List<String> lines = Files.readAllLines(Path.of("README.md"));
    obeyExamples(lines);
    same("tests", named(lines, TEST), tests());
    same("calls", named(lines, ROW), methods());
    check.end();
  }

  private static void obeyExamples(List<String> lines) throws ReflectiveOperationException {
    boolean inside = false;
    int calls = 0;
    for (String line : lines) {
      if (line.startsWith("```")) {
        inside = line.equals("```java");
      } else if (inside && line.equals("CartridgeDesk desk = new CartridgeDesk();")) {
        desk = new CartridgeDesk();
      } else if (inside && !line.isEmpty()) {
        obeyLine(line);
        calls++;
      }
    }
    check.due("there are calls in README.md", calls > 0 ? 1 : 0, 1);
  }

  private static void obeyLine(String line) throws ReflectiveOperationException {
    Matcher call = CALL.matcher(line);
    if (!call.matches()) {
      check.report("README.md has what is no call: " + line);
      return;
    }
    String told = call.group(3) == null ? "" : call.group(3);
    Matcher answer = ANSWER.matcher(told);
    Matcher thrown = THROWS.matcher(told);
    String want = thrown.matches() ? thrown.group(1) : "";
    String got = "";
    try {
      Object value = called(call.group(1), call.group(2));
      if (answer.matches()) {
        check.due(line, ((Integer) value).longValue(), Long.parseLong(answer.group(1)));
      }
    } catch (InvocationTargetException e) {
      got = e.getCause().getClass().getSimpleName();
    }
    check.due(line + " threw '" + got + "'", got.equals(want) ? 1 : 0, 1);
  }

  private static Object called(String name, String list) throws ReflectiveOperationException {
    String[] texts = list.isEmpty() ? new String[0] : list.split(", ");
    Class<?>[] types = new Class<?>[texts.length];
    Object[] values = new Object[texts.length];
    for (int k = 0; k < texts.length; k++) {
      types[k] = int.class;
      boolean none = texts[k].equals("CartridgeDesk.NONE");
      values[k] = none ? CartridgeDesk.NONE : Integer.decode(texts[k]);
    }
    return CartridgeDesk.class.getMethod(name, types).invoke(desk, values);
  }

  private static Set<String> named(List<String> lines, Pattern pattern) {
    Set<String> names = new TreeSet<>();
    for (String line : lines) {
      Matcher name = pattern.matcher(line);
      while (name.find()) {
        names.add(name.group(1));
      }
    }
    return names;
  }

  private static Set<String> tests() throws IOException {
    Set<String> names = new TreeSet<>();
    try (Stream<Path> files = Files.list(Path.of("src/test/java"))) {
      files.map(file -> file.getFileName().toString())
          .filter(name -> name.endsWith("Test.java"))
          .forEach(name -> names.add(name.substring(0, name.length() - ".java".length())));
    }
    return names;
  }

  private static Set<String> methods() {
    Set<String> names = new TreeSet<>();
    for (Method m : CartridgeDesk.class.getDeclaredMethods()) {
      if (Modifier.isPublic(m.getModifiers())) {
        names.add(m.getName());
      }
    }
    return names;
  }

  private static void same(String what, Set<String> told, Set<String> real) {
    String text = "README.md tells " + what + " " + told + ", there are " + real;
    check.due(text, told.equals(real) ? 1 : 0, 1);
  }
}

import java.io.IOException;
import java.lang.reflect.Constructor;
import java.lang.reflect.Field;
import java.lang.reflect.Method;
import java.lang.reflect.Modifier;
import java.nio.file.Files;
import java.nio.file.Path;
import java.util.List;
import java.util.Set;

/** What can be seen of LANGUAGE.md's rules in the program's own lines and classes. */
public final class LanguageTest {
  private static final Check check = new Check("LanguageTest");

  private static final String[] BARRED = {
    "->", "::", "finally", "synchronized", "assert", "static {", "try", "catch", "package ",
    "System.", "Object", "Random", "Thread", "getMessage", "Exact(", "/ 0"
  };
  private static final int LONGEST_METHOD = 60;
  private static final int MOST_CLASSES = 12;
  private static final int MOST_FIELDS = 20;
  private static final int MOST_PARAMETERS = 7;
  private static final Set<Class<?>> CONSTANTS =
      Set.of(int.class, long.class, boolean.class, char.class, String.class,
          int[].class, long[].class, char[].class, byte[].class);
  /** Own classes aside; arrays of more dimensions and other classes are not used at all. */
  private static final Set<Class<?>> TYPES =
      Set.of(int.class, boolean.class, int[].class, void.class);

  private LanguageTest() {}

  public static void main(String[] args) throws IOException {
    List<String> lines = Files.readAllLines(Path.of("src/main/java/CartridgeDesk.java"));
    int methodStart = 0;
    for (int k = 0; k < lines.size(); k++) {
      String line = lines.get(k);
      barred(line, k + 1);
      if (line.startsWith("import ")) {
        check.due(line, line.equals("import java.util.NoSuchElementException;") ? 1 : 0, 1);
      }
      if (line.isEmpty()) {
        methodStart = k + 1;
      }
      boolean tooLong = k + 1 - methodStart > LONGEST_METHOD;
      check.due("line " + (k + 1) + " ends more than sixty lines", tooLong ? 1 : 0, 0);
    }
    Class<?>[] inside = CartridgeDesk.class.getDeclaredClasses();
    check.due("classes are few", inside.length < MOST_CLASSES ? 1 : 0, 1);
    look(CartridgeDesk.class);
    for (Class<?> one : inside) {
      check.due(one + " is static", one.getModifiers() & Modifier.STATIC, Modifier.STATIC);
      check.due(one + " has none inside", one.getDeclaredClasses().length, 0);
      look(one);
    }
    check.end();
  }

  private static void look(Class<?> one) {
    int fields = 0;
    for (Field field : one.getDeclaredFields()) {
      if (Modifier.isStatic(field.getModifiers())) {
        boolean constant = Modifier.isFinal(field.getModifiers());
        check.due(field + " is final", constant ? 1 : 0, 1);
        check.due(field + " is as rule 5", CONSTANTS.contains(field.getType()) ? 1 : 0, 1);
      } else {
        fields++;
        lookAtType(field.toString(), field.getType());
      }
    }
    check.due(one + " has few fields", fields <= MOST_FIELDS ? 1 : 0, 1);
    for (Constructor<?> constructor : one.getDeclaredConstructors()) {
      lookAtParameters(constructor.toString(), constructor.getParameterTypes());
    }
    for (Method method : one.getDeclaredMethods()) {
      lookAtParameters(method.toString(), method.getParameterTypes());
      lookAtType(method.toString(), method.getReturnType());
    }
  }

  private static void lookAtParameters(String name, Class<?>[] types) {
    check.due(name + " has few parameters", types.length <= MOST_PARAMETERS ? 1 : 0, 1);
    for (Class<?> type : types) {
      lookAtType(name, type);
    }
  }

  private static void lookAtType(String name, Class<?> type) {
    boolean own = type.getNestHost() == CartridgeDesk.class;
    check.due(name + " is as rule 3", own || TYPES.contains(type) ? 1 : 0, 1);
  }

  private static void barred(String line, int number) {
    String code = line.trim();
    if (code.startsWith("/") || code.startsWith("*")) {
      return;
    }
    for (String word : BARRED) {
      check.due("line " + number + " has " + word, code.contains(word) ? 1 : 0, 0);
    }
  }
}

import java.io.IOException;
import java.nio.file.Files;
import java.nio.file.Path;
import java.util.List;

/** What can be seen of LANGUAGE.md's rules in the program's own lines. */
public final class LanguageTest {
  private static final Check check = new Check("LanguageTest");

  private static final String[] BARRED = {
    "->", "::", "finally", "synchronized", "assert", "static {", "try", "catch", "package ",
    "System.", "Object", "Random", "Thread", "getMessage", "Exact(", "/ 0"
  };
  private static final int LONGEST_METHOD = 60;

  private LanguageTest() {}

  public static void main(String[] args) throws IOException {
    List<String> lines = Files.readAllLines(Path.of("src/main/java/CartridgeDesk.java"));
    int methodStart = 0;
    for (int k = 0; k < lines.size(); k++) {
      String line = lines.get(k);
      barred(line, k + 1);
      if (line.startsWith("import ")) {
        check.due(line, line.equals("import java.util.NoSuchElementException;") ? 1 : 0, 1);
      }
      if (line.isEmpty()) {
        methodStart = k + 1;
      }
      boolean tooLong = k + 1 - methodStart > LONGEST_METHOD;
      check.due("line " + (k + 1) + " ends more than sixty lines", tooLong ? 1 : 0, 0);
    }
    check.end();
  }

  private static void barred(String line, int number) {
    String code = line.trim();
    if (code.startsWith("/") || code.startsWith("*")) {
      return;
    }
    for (String word : BARRED) {
      check.due("line " + number + " has " + word, code.contains(word) ? 1 : 0, 0);
    }
  }
}

import java.io.IOException;
import java.lang.reflect.Method;
import java.nio.file.Files;
import java.nio.file.Path;
import java.util.Arrays;
import java.util.regex.Matcher;
import java.util.regex.Pattern;

/** The tests that BOUNDARIES.md names exist: a list that nobody looks at goes out of date. */
final class BoundariesTest {
  private static final Pattern TEST = Pattern.compile("`(\\w+Test)\\.(\\w+)`");

  private BoundariesTest() {}

  static void run() throws IOException {
    String text = Files.readString(Path.of("src/test/BOUNDARIES.md"));
    Matcher names = TEST.matcher(text);
    while (names.find()) {
      Checks.due(names.group() + " exists", exists(names.group(1), names.group(2)), true);
    }
    for (String line : text.split("\n")) {
      boolean isRow = line.startsWith("| ") && !line.startsWith("| the document")
          && !line.startsWith("| ---");
      Checks.due("a test is named: " + line, !isRow || TEST.matcher(line).find(), true);
    }
  }

  private static boolean exists(String type, String name) {
    try {
      Method[] methods = Class.forName(type).getDeclaredMethods();
      return Arrays.stream(methods).anyMatch(method -> method.getName().equals(name));
    } catch (ClassNotFoundException e) {
      return false;
    }
  }
}

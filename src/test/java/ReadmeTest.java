import java.io.IOException;
import java.lang.reflect.InvocationTargetException;
import java.lang.reflect.Method;
import java.lang.reflect.Modifier;
import java.nio.file.Files;
import java.nio.file.Path;
import java.util.Arrays;
import java.util.regex.Matcher;
import java.util.regex.Pattern;

/** What README.md says of the calls is so: an example that nobody runs goes out of date. */
final class ReadmeTest {
  private static final Pattern CALL =
      Pattern.compile("(?m)^graph\\.(\\w+)\\(([-0-9, ]*)\\);(?: +// (-?\\w+).*)?$");

  private ReadmeTest() {}

  static void run() throws IOException {
    String text = Files.readString(Path.of("README.md"));
    theRunOfCallsAnswersWhatItSays(text);
    noCallIsLeftOut(text);
  }

  private static void theRunOfCallsAnswersWhatItSays(String text) {
    BlockGraph graph = new BlockGraph();
    Matcher calls = CALL.matcher(text);
    int found = 0;
    while (calls.find()) {
      found++;
      String said = calls.group(3) == null ? "nothing" : calls.group(3);
      Checks.due("README.md: " + calls.group(), answerOf(graph, calls.group(1), calls.group(2)),
          said);
    }
    Checks.due("calls in README.md", found, text.split("\ngraph\\.", -1).length - 1);
    Checks.due("there are calls in README.md", found > 0, true);
  }

  private static void noCallIsLeftOut(String text) {
    for (Method method : BlockGraph.class.getDeclaredMethods()) {
      if (Modifier.isPublic(method.getModifiers())) {
        Checks.due("README.md tells of " + method.getName(),
            text.contains("\n| `" + method.getName() + "("), true);
      }
    }
  }

  private static String answerOf(BlockGraph graph, String name, String numbers) {
    Object[] arguments = numbers.isEmpty() ? new Object[0]
        : Arrays.stream(numbers.split(", ")).map(Integer::valueOf).toArray();
    for (Method method : BlockGraph.class.getDeclaredMethods()) {
      if (method.getName().equals(name) && method.getParameterCount() == arguments.length) {
        return answerOf(graph, method, arguments);
      }
    }
    return "no such call";
  }

  private static String answerOf(BlockGraph graph, Method method, Object[] arguments) {
    try {
      Object answer = method.invoke(graph, arguments);
      return answer == null ? "nothing" : answer.toString();
    } catch (InvocationTargetException e) {
      return e.getCause().getClass().getSimpleName();
    } catch (IllegalAccessException e) {
      return "no call of the face";
    }
  }
}

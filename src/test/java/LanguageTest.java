import java.io.IOException;
import java.lang.reflect.Field;
import java.lang.reflect.Method;
import java.lang.reflect.Modifier;
import java.nio.file.Files;
import java.nio.file.Path;
import java.util.Arrays;
import java.util.HashSet;
import java.util.Set;
import java.util.regex.Pattern;

/** Those rules of LANGUAGE.md that a look at the class and its text can tell. */
final class LanguageTest {
  private static final String[] OUTSIDE_THE_RULES = {
    "->", "::", "\\bpackage\\b", "\\bfinally\\b", "\\bsynchronized\\b", "\\bassert\\b",
    "\\btry\\b", "\\bObject\\b", "\\bSystem\\.(?!arraycopy)", "Exact\\b", "\\bvar\\b",
    "import (?!java\\.util\\.(Arrays|NoSuchElementException);)", "\\bthrow (?!new [A-Z])",
    "[^\\x00-\\xff]",
  };

  private LanguageTest() {}

  static void run() throws IOException {
    Class<?>[] inside = BlockGraph.class.getDeclaredClasses();
    Checks.due("at most twelve classes", inside.length < 12, true);
    Set<String> faceNames = new HashSet<>();
    for (Method method : BlockGraph.class.getDeclaredMethods()) {
      if (Modifier.isPublic(method.getModifiers())) {
        faceNames.add(method.getName());
      }
    }
    look(BlockGraph.class, faceNames);
    for (Class<?> one : inside) {
      Checks.due("static: " + one, Modifier.isStatic(one.getModifiers()), true);
      look(one, faceNames);
    }
    lookAtText();
  }

  private static void look(Class<?> type, Set<String> faceNames) {
    int fields = 0;
    for (Field field : type.getDeclaredFields()) {
      if (Modifier.isStatic(field.getModifiers())) {
        Checks.due("final: " + field, Modifier.isFinal(field.getModifiers()), true);
      } else {
        fields++;
      }
    }
    Checks.due("at most twenty fields: " + type, fields <= 20, true);
    for (Method method : type.getDeclaredMethods()) {
      boolean isFace = Modifier.isPublic(method.getModifiers());
      Checks.due("a name of its own: " + method, isFace || !faceNames.contains(method.getName()),
          true);
      Checks.due("at most seven parameters: " + method, method.getParameterCount() <= 7, true);
    }
  }

  private static void lookAtText() throws IOException {
    String text = Files.readString(Path.of("src/main/java/BlockGraph.java"));
    for (String pattern : OUTSIDE_THE_RULES) {
      String withoutComments = text.replaceAll("(?s)/\\*.*?\\*/", "").replaceAll("//.*", "");
      Checks.due("the text holds " + pattern, Pattern.compile(pattern).matcher(withoutComments)
          .find(), false);
    }
    Checks.due("no line is too long", Arrays.stream(text.split("\n")).allMatch(
        line -> line.length() <= 100), true);
  }
}

import java.lang.reflect.Constructor;
import java.lang.reflect.Field;
import java.lang.reflect.Method;
import java.lang.reflect.Modifier;
import java.util.Arrays;
import java.util.TreeSet;
import java.util.stream.Collectors;

/** The public face is the document's, with the exceptions that it names, and nothing more. */
final class FaceTest {
  private static final String STATE = " throws IllegalStateException";
  private static final String ARGUMENT = " throws IllegalArgumentException";
  private static final String[] METHODS = {
    "boolean format()",
    "void begin()" + STATE,
    "int add(int, int, int)" + STATE + ", IllegalArgumentException, UnsupportedOperationException",
    "void remove(int)" + STATE + ", NoSuchElementException, UnsupportedOperationException",
    "boolean commit()" + STATE,
    "int abort()" + STATE,
    "void arm(int)" + ARGUMENT,
    "int recover()",
    "int edge(int, int)" + STATE + ", NoSuchElementException, IllegalArgumentException",
    "void room(int)" + ARGUMENT,
    "int run(int)" + STATE + ", IllegalArgumentException",
    "int distance(int)" + STATE + ", IllegalArgumentException",
    "int parent(int)" + STATE + ", IllegalArgumentException",
    "int way(int, int)" + STATE + ", IllegalArgumentException, IndexOutOfBoundsException",
    "int atHand(int) throws IndexOutOfBoundsException",
    "int count(int)" + ARGUMENT,
  };

  private FaceTest() {}

  static void run() {
    Class<?> face = BlockGraph.class;
    Checks.due("the class", Modifier.toString(face.getModifiers()), "public final");
    TreeSet<String> methods = new TreeSet<>();
    for (Method method : face.getDeclaredMethods()) {
      if (!Modifier.isPrivate(method.getModifiers())) {
        Checks.due("modifiers of " + method.getName(), Modifier.toString(method.getModifiers()),
            "public");
        methods.add(textOf(method));
      }
    }
    Checks.due("the methods", methods, new TreeSet<>(Arrays.asList(METHODS)));
    TreeSet<String> fields = new TreeSet<>();
    for (Field field : face.getDeclaredFields()) {
      if (!Modifier.isPrivate(field.getModifiers())) {
        fields.add(Modifier.toString(field.getModifiers()) + " " + field.getType() + " "
            + field.getName());
      }
    }
    Checks.due("the constants", fields.toString(), "[public static final int NONE]");
    Constructor<?>[] constructors = face.getDeclaredConstructors();
    Checks.due("how many constructors", constructors.length, 1);
    Checks.due("the constructor", constructors[0].toString(), "public BlockGraph()");
  }

  private static String textOf(Method method) {
    String thrown = namesOf(method.getExceptionTypes());
    return method.getReturnType() + " " + method.getName() + "("
        + namesOf(method.getParameterTypes()) + ")" + (thrown.isEmpty() ? "" : " throws " + thrown);
  }

  private static String namesOf(Class<?>[] types) {
    return Arrays.stream(types).map(Class::getSimpleName).collect(Collectors.joining(", "));
  }
}

import java.util.function.Consumer;

/** Counts what passed, and prints every answer that is not the one that is due. */
final class Checks {
  private static final Class<?>[] FACE_EXCEPTIONS = {
    IllegalStateException.class, IllegalArgumentException.class, IndexOutOfBoundsException.class,
    UnsupportedOperationException.class, java.util.NoSuchElementException.class,
  };
  private static int passed = 0;
  private static int failed = 0;

  private Checks() {}

  static void due(String what, Object got, Object want) {
    if (got.equals(want)) {
      passed++;
    } else {
      failed++;
      System.out.println(what + " answered " + got + ", due is " + want);
    }
  }

  /** The call throws just this exception, and changes nothing that can be asked for. */
  static void refused(BlockGraph graph, String what, Class<?> kind, Runnable call) {
    String before = Probe.state(graph);
    due(what, thrownBy(call), kind.getSimpleName());
    due("the state behind " + what, Probe.state(graph), before);
  }

  /**
   * The call throws just this exception, and changes nothing: an object that was called so answers
   * everything as its twin does that was not.
   */
  static void refused(States.State state, String what, Class<?> kind, Consumer<BlockGraph> call) {
    String name = what + " " + state.name();
    BlockGraph graph = state.make();
    due(name, thrownBy(() -> call.accept(graph)), kind.getSimpleName());
    due("all behind " + name, Probe.everything(graph), Probe.everything(state.make()));
  }

  /** The name of what the call throws. */
  static String thrownBy(Runnable call) {
    try {
      call.run();
    } catch (RuntimeException e) {
      return nameOf(e);
    }
    return "nothing";
  }

  static String nameOf(RuntimeException e) {
    for (Class<?> kind : FACE_EXCEPTIONS) {
      if (e.getClass() == kind) {
        return kind.getSimpleName();
      }
    }
    return "unasked-for " + e;
  }

  static boolean report() {
    System.out.println(passed + " passed, " + failed + " failed");
    return failed == 0 && passed > 0;
  }
}

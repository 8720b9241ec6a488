import java.util.List;
import java.util.NoSuchElementException;
import java.util.function.Consumer;

/**
 * Terms: "Methods throw what their comments name, the one named first when several would do.
 * IllegalStateException: the store is down, or there is no graph (DOWN). A call that throws changes
 * nothing." Every refusal here is compared with a twin that was not called.
 */
final class TermsRefusalTest {
  private static final Class<?> STATE = IllegalStateException.class;
  private static final Class<?> ARGUMENT = IllegalArgumentException.class;
  private static final Class<?> INDEX = IndexOutOfBoundsException.class;
  private static final Class<?> NO_ELEMENT = NoSuchElementException.class;
  private static final Class<?> UNSUPPORTED = UnsupportedOperationException.class;

  private record Call(String name, Consumer<BlockGraph> made) {}

  /** Each with arguments that would do and, where it has some, with wrong ones. */
  private static final List<Call> NEED_A_TRANSACTION = List.of(
      new Call("add(0, 1, 1)", graph -> graph.add(0, 1, 1)),
      new Call("add(64, 0, 1)", graph -> graph.add(64, 0, 1)),
      new Call("add(0, -1, 1)", graph -> graph.add(0, -1, 1)),
      new Call("add(0, 0, 0)", graph -> graph.add(0, 0, 0)),
      new Call("remove(0)", graph -> graph.remove(0)),
      new Call("remove(199)", graph -> graph.remove(199)),
      new Call("remove(200)", graph -> graph.remove(200)),
      new Call("commit()", BlockGraph::commit),
      new Call("abort()", BlockGraph::abort));

  private static final List<Call> NEED_FRESH_WAYS = List.of(
      new Call("distance(0)", graph -> graph.distance(0)),
      new Call("distance(64)", graph -> graph.distance(64)),
      new Call("parent(0)", graph -> graph.parent(0)),
      new Call("parent(-1)", graph -> graph.parent(-1)),
      new Call("way(0, 0)", graph -> graph.way(0, 0)),
      new Call("way(0, 64)", graph -> graph.way(0, 64)),
      new Call("way(64, 0)", graph -> graph.way(64, 0)));

  private static final List<Call> NEED_A_GRAPH = List.of(
      new Call("begin()", BlockGraph::begin),
      new Call("edge(0, 0)", graph -> graph.edge(0, 0)),
      new Call("edge(0, 3)", graph -> graph.edge(0, 3)),
      new Call("edge(200, 0)", graph -> graph.edge(200, 0)),
      new Call("run(0)", graph -> graph.run(0)),
      new Call("run(64)", graph -> graph.run(64)));

  private TermsRefusalTest() {}

  static void run() {
    whatIsDownRefusesAllThatNeedsAGraph();
    whatIsDownTakesTheRest();
    withoutATransactionThereIsNothingToChange();
    inATransactionNoneBegins();
    staleWaysAreNotTold();
    addThrowsWhatIsNamedFirst();
    removeThrowsWhatIsNamedFirst();
    edgeThrowsWhatIsNamedFirst();
    wayThrowsWhatIsNamedFirst();
    theFarthestNumbersAreRefused();
  }

  private static void allRefused(States.State state, List<Call> calls) {
    for (Call call : calls) {
      Checks.refused(state, call.name, STATE, call.made);
    }
  }

  private static void whatIsDownRefusesAllThatNeedsAGraph() {
    for (States.State state : States.DOWN) {
      allRefused(state, NEED_A_GRAPH);
      allRefused(state, NEED_A_TRANSACTION);
      allRefused(state, NEED_FRESH_WAYS);
    }
  }

  private static void whatIsDownTakesTheRest() {
    for (States.State state : States.DOWN) {
      String name = " " + state.name();
      BlockGraph graph = state.make();
      Checks.due("count(0)" + name, graph.count(Probe.EDGES), -1);
      Checks.due("count(3)" + name, graph.count(Probe.OPERATIONS), -1);
      Checks.due("count(7)" + name, graph.count(Probe.DOWN), 1);
      int size = graph.count(Probe.AT_HAND);
      Checks.refused(state, "arm(-2)", ARGUMENT, one -> one.arm(-2));
      Checks.refused(state, "room(0)", ARGUMENT, one -> one.room(0));
      Checks.refused(state, "room(51)", ARGUMENT, one -> one.room(51));
      Checks.refused(state, "atHand(-1)", INDEX, one -> one.atHand(-1));
      Checks.refused(state, "atHand of one too many", INDEX, one -> one.atHand(size));
      Checks.refused(state, "count(8)", ARGUMENT, one -> one.count(8));
      graph.room(50);
      graph.arm(0);
      Checks.due("format() without a write" + name, graph.format(), false);
      graph.arm(53);
      Checks.due("format() with all writes" + name, graph.format(), true);
      Checks.due("count(4) behind it" + name, graph.count(Probe.AT_HAND), 50);
      Checks.due("count(0) behind it" + name, graph.count(Probe.EDGES), 0);
      Checks.due("count(7) behind it" + name, graph.count(Probe.DOWN), 0);
      graph.begin();
      Checks.due("add behind it" + name, graph.add(0, 1, 1), 0);
    }
  }

  private static void withoutATransactionThereIsNothingToChange() {
    allRefused(States.EMPTY, NEED_A_TRANSACTION);
    allRefused(States.IDLE, NEED_A_TRANSACTION);
    States.State behindCommit = new States.State("behind commit()", () -> {
      BlockGraph graph = States.OPEN.make();
      graph.commit();
      return graph;
    });
    allRefused(behindCommit, NEED_A_TRANSACTION);
    States.State behindAbort = new States.State("behind abort()", () -> {
      BlockGraph graph = States.OPEN.make();
      graph.abort();
      return graph;
    });
    allRefused(behindAbort, NEED_A_TRANSACTION);
    States.State full = new States.State("with 200 edges, but without a transaction", () -> {
      BlockGraph graph = States.FULL.make();
      graph.abort();
      return graph;
    });
    Checks.refused(full, "add(0, 1, 1)", STATE, graph -> graph.add(0, 1, 1));
  }

  private static void inATransactionNoneBegins() {
    Checks.refused(States.OPEN, "begin()", STATE, BlockGraph::begin);
    Checks.refused(States.TWENTY, "begin()", STATE, BlockGraph::begin);
    States.State begun = new States.State("behind begin()", Probe::begun);
    Checks.refused(begun, "begin()", STATE, BlockGraph::begin);
  }

  private static void staleWaysAreNotTold() {
    for (States.State state : States.STALE) {
      allRefused(state, NEED_FRESH_WAYS);
    }
  }

  /** A wrong vertex or weight goes before too many edges or operations. */
  private static void addThrowsWhatIsNamedFirst() {
    for (States.State state : List.of(States.FULL, States.TWENTY, States.FULL_AND_TWENTY)) {
      Checks.refused(state, "add(0, 63, 32767)", UNSUPPORTED, graph -> graph.add(0, 63, 32767));
      Checks.refused(state, "add(64, 0, 1)", ARGUMENT, graph -> graph.add(64, 0, 1));
      Checks.refused(state, "add(-1, 0, 1)", ARGUMENT, graph -> graph.add(-1, 0, 1));
      Checks.refused(state, "add(0, 64, 1)", ARGUMENT, graph -> graph.add(0, 64, 1));
      Checks.refused(state, "add(0, -1, 1)", ARGUMENT, graph -> graph.add(0, -1, 1));
      Checks.refused(state, "add(0, 0, 0)", ARGUMENT, graph -> graph.add(0, 0, 0));
      Checks.refused(state, "add(0, 0, 32768)", ARGUMENT, graph -> graph.add(0, 0, 32768));
    }
  }

  /** An edge that is not there goes before too many operations. */
  private static void removeThrowsWhatIsNamedFirst() {
    Checks.refused(States.TWENTY, "remove(4)", UNSUPPORTED, graph -> graph.remove(4));
    Checks.refused(States.TWENTY, "remove(5)", NO_ELEMENT, graph -> graph.remove(5));
    Checks.refused(States.TWENTY, "remove(-1)", NO_ELEMENT, graph -> graph.remove(-1));
    Checks.refused(States.FULL_AND_TWENTY, "remove(199)", UNSUPPORTED, graph -> graph.remove(199));
    Checks.refused(States.FULL_AND_TWENTY, "remove(200)", NO_ELEMENT, graph -> graph.remove(200));
  }

  /** An edge that is not there goes before a part that there is none of. */
  private static void edgeThrowsWhatIsNamedFirst() {
    Checks.refused(States.OPEN, "edge(0, 3)", ARGUMENT, graph -> graph.edge(0, 3));
    Checks.refused(States.OPEN, "edge(1, 3)", NO_ELEMENT, graph -> graph.edge(1, 3));
    Checks.refused(States.OPEN, "edge(-1, -1)", NO_ELEMENT, graph -> graph.edge(-1, -1));
    Checks.refused(States.FULL, "edge(199, 3)", ARGUMENT, graph -> graph.edge(199, 3));
    Checks.refused(States.FULL, "edge(200, 3)", NO_ELEMENT, graph -> graph.edge(200, 3));
  }

  /** A vertex that there is none of goes before a place that the way has not. */
  private static void wayThrowsWhatIsNamedFirst() {
    Checks.refused(States.OPEN, "way(63, -1)", INDEX, graph -> graph.way(63, -1));
    Checks.refused(States.OPEN, "way(64, -1)", ARGUMENT, graph -> graph.way(64, -1));
    Checks.refused(States.OPEN, "way(0, 64)", INDEX, graph -> graph.way(0, 64));
    Checks.refused(States.OPEN, "way(-1, 64)", ARGUMENT, graph -> graph.way(-1, 64));
  }

  /** Sums and differences with these numbers wrap around. */
  private static void theFarthestNumbersAreRefused() {
    for (int far : new int[] {Integer.MIN_VALUE, Integer.MIN_VALUE + 1, Integer.MAX_VALUE}) {
      String one = "(" + far + ")";
      Checks.refused(States.OPEN, "add from" + one, ARGUMENT, graph -> graph.add(far, 0, 1));
      Checks.refused(States.OPEN, "add to" + one, ARGUMENT, graph -> graph.add(0, far, 1));
      Checks.refused(States.OPEN, "add of weight" + one, ARGUMENT, graph -> graph.add(0, 0, far));
      Checks.refused(States.OPEN, "remove" + one, NO_ELEMENT, graph -> graph.remove(far));
      Checks.refused(States.OPEN, "edge" + one, NO_ELEMENT, graph -> graph.edge(far, 0));
      Checks.refused(States.OPEN, "edge part" + one, ARGUMENT, graph -> graph.edge(0, far));
      Checks.refused(States.OPEN, "room" + one, ARGUMENT, graph -> graph.room(far));
      Checks.refused(States.OPEN, "run" + one, ARGUMENT, graph -> graph.run(far));
      Checks.refused(States.OPEN, "distance" + one, ARGUMENT, graph -> graph.distance(far));
      Checks.refused(States.OPEN, "parent" + one, ARGUMENT, graph -> graph.parent(far));
      Checks.refused(States.OPEN, "way to" + one, ARGUMENT, graph -> graph.way(far, 0));
      Checks.refused(States.OPEN, "way place" + one, INDEX, graph -> graph.way(63, far));
      Checks.refused(States.OPEN, "atHand" + one, INDEX, graph -> graph.atHand(far));
      Checks.refused(States.OPEN, "count" + one, ARGUMENT, graph -> graph.count(far));
      if (far < 0) {
        Checks.refused(States.OPEN, "arm" + one, ARGUMENT, graph -> graph.arm(far));
      }
    }
  }
}

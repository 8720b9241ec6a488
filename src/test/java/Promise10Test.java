import java.util.NoSuchElementException;

/** Promise 10: edge. */
final class Promise10Test {
  private static final Class<?> STATE = IllegalStateException.class;
  private static final Class<?> NO_ELEMENT = NoSuchElementException.class;

  private Promise10Test() {}

  static void run() {
    partsAreAsTheyAreVisible();
    itLooksAtTheBlock();
    wrongInputsAreRefused();
    itNeedsAGraph();
    partsAre0To2();
    onlyVisibleEdgesAreTold();
  }

  private static void partsAre0To2() {
    Class<?> argument = IllegalArgumentException.class;
    BlockGraph graph = States.OPEN.make();
    Checks.due("edge(5, 0)", graph.edge(5, 0), 3);
    Checks.due("edge(5, 1)", graph.edge(5, 1), 63);
    Checks.due("edge(5, 2)", graph.edge(5, 2), 7);
    Checks.refused(States.OPEN, "edge(5, -1)", argument, one -> one.edge(5, -1));
    Checks.refused(States.OPEN, "edge(5, 3)", argument, one -> one.edge(5, 3));
  }

  private static void onlyVisibleEdgesAreTold() {
    Checks.refused(States.OPEN, "edge(1, 0), a removed one", NO_ELEMENT, one -> one.edge(1, 0));
    Checks.refused(States.OPEN, "edge(6, 0), behind the last", NO_ELEMENT, one -> one.edge(6, 0));
    Checks.refused(States.OPEN, "edge(-1, 0)", NO_ELEMENT, one -> one.edge(-1, 0));
    Checks.refused(States.OPEN, "edge(199, 0)", NO_ELEMENT, one -> one.edge(199, 0));
    Checks.refused(States.FULL, "edge(200, 0)", NO_ELEMENT, one -> one.edge(200, 0));
    Checks.due("edge(199, 0) of 200", States.FULL.make().edge(199, 0), 0);
    BlockGraph aborted = States.OPEN.make();
    aborted.abort();
    Checks.due("edge(1, 2) behind abort()", aborted.edge(1, 2), 5);
    Checks.refused(aborted, "edge(5, 2) behind abort()", NO_ELEMENT, () -> aborted.edge(5, 2));
  }

  private static void partsAreAsTheyAreVisible() {
    BlockGraph graph = Probe.begun();
    graph.add(3, 4, 5);
    graph.add(63, 0, 32767);
    Checks.due("a pending edge", Probe.edge(graph, 0), "3 4 5");
    Checks.due("another one", Probe.edge(graph, 1), "63 0 32767");
    graph.commit();
    Checks.due("a committed edge", Probe.edge(graph, 0), "3 4 5");
    graph.begin();
    graph.remove(0);
    graph.add(6, 7, 8);
    Checks.due("an edge of the same number", Probe.edge(graph, 0), "6 7 8");
    graph.abort();
    Checks.due("the old edge again", Probe.edge(graph, 0), "3 4 5");
  }

  private static void itLooksAtTheBlock() {
    BlockGraph graph = Probe.begun();
    for (int k = 0; k < 9; k++) {
      graph.add(k, k, 1);
    }
    graph.edge(3, 0);
    Checks.due("at hand behind edge 3", Probe.hand(graph), "0 49 48 47 46 45 44 43");
    graph.edge(4, 1);
    graph.edge(8, 2);
    Checks.due("at hand behind edge 8", Probe.hand(graph), "2 1 0 49 48 47 46 45");
    Checks.due("reads", graph.count(Probe.READS), 3);
    graph.edge(0, 2);
    Checks.due("at hand behind edge 0", Probe.hand(graph), "0 2 1 49 48 47 46 45");
    Checks.due("reads of what was at hand", graph.count(Probe.READS), 3);
  }

  private static void wrongInputsAreRefused() {
    BlockGraph graph = Probe.begun();
    graph.add(1, 2, 3);
    Class<?> argument = IllegalArgumentException.class;
    Checks.refused(graph, "edge(0, -1)", argument, () -> graph.edge(0, -1));
    Checks.refused(graph, "edge(0, 3)", argument, () -> graph.edge(0, 3));
    Checks.refused(graph, "edge(1, 0)", NO_ELEMENT, () -> graph.edge(1, 0));
    Checks.refused(graph, "edge(1, 3)", NO_ELEMENT, () -> graph.edge(1, 3));
    Checks.refused(graph, "edge(-1, 0)", NO_ELEMENT, () -> graph.edge(-1, 0));
    Checks.refused(graph, "edge(200, 0)", NO_ELEMENT, () -> graph.edge(200, 0));
    graph.remove(0);
    Checks.refused(graph, "edge of a removed one", NO_ELEMENT, () -> graph.edge(0, 0));
  }

  private static void itNeedsAGraph() {
    BlockGraph down = Probe.down();
    Checks.refused(down, "edge when down", STATE, () -> down.edge(0, 0));
    Checks.refused(down, "a wrong edge when down", STATE, () -> down.edge(200, 3));
    BlockGraph none = Probe.withoutGraph();
    Checks.refused(none, "edge without a graph", STATE, () -> none.edge(0, 0));
  }
}

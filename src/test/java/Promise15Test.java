/** Promise 15: way. */
final class Promise15Test {
  private static final Class<?> STATE = IllegalStateException.class;
  private static final Class<?> ARGUMENT = IllegalArgumentException.class;
  private static final Class<?> INDEX = IndexOutOfBoundsException.class;

  private Promise15Test() {}

  static void run() {
    waysGoByParents();
    waysHaveOneToSixtyFourVertices();
    verticesAre0To63();
    wrongInputsAreRefused();
    itNeedsFreshWays();
  }

  /** Two ways of the same length lead to 5; the parent of 5 is the lesser edge. */
  private static BlockGraph withTwoWays() {
    BlockGraph graph = Probe.begun();
    graph.add(7, 5, 2);
    graph.add(6, 5, 2);
    graph.add(40, 6, 3);
    graph.add(40, 7, 3);
    graph.add(5, 40, 1);
    graph.add(5, 63, 1);
    graph.commit();
    graph.run(40);
    return graph;
  }

  private static void waysGoByParents() {
    BlockGraph graph = withTwoWays();
    Checks.due("way to the source", Probe.way(graph, 40), "40");
    Checks.due("way to 6", Probe.way(graph, 6), "40 6");
    Checks.due("way to 5", Probe.way(graph, 5), "40 7 5");
    Checks.due("way to 63", Probe.way(graph, 63), "40 7 5 63");
    graph.begin();
    graph.remove(0);
    graph.run(40);
    Checks.due("way to 63 without edge 0", Probe.way(graph, 63), "40 6 5 63");
  }

  private static void waysHaveOneToSixtyFourVertices() {
    BlockGraph graph = Probe.withRing();
    graph.run(1);
    Checks.due("the first of 64", graph.way(0, 0), 1);
    Checks.due("the second of 64", graph.way(0, 1), 2);
    Checks.due("the 63rd of 64", graph.way(0, 62), 63);
    Checks.due("the last of 64", graph.way(0, 63), 0);
    Checks.refused(graph, "one behind the last of 64", INDEX, () -> graph.way(0, 64));
    Checks.refused(graph, "one before the first of 64", INDEX, () -> graph.way(0, -1));
    Checks.due("the only one", graph.way(1, 0), 1);
    Checks.refused(graph, "one behind the only one", INDEX, () -> graph.way(1, 1));
    Checks.due("the last of 63", graph.way(63, 62), 63);
    Checks.refused(graph, "one behind the last of 63", INDEX, () -> graph.way(63, 63));
  }

  private static void verticesAre0To63() {
    BlockGraph graph = States.OPEN.make();
    Checks.due("way to 0", Probe.way(graph, 0), "0");
    Checks.due("way to 63", Probe.way(graph, 63), "0 2 3 63");
    Checks.refused(States.OPEN, "way(63, 4)", INDEX, one -> one.way(63, 4));
    Checks.refused(States.OPEN, "way(63, -1)", INDEX, one -> one.way(63, -1));
    Checks.refused(States.OPEN, "way(62, 0), not reached", INDEX, one -> one.way(62, 0));
    Checks.refused(States.OPEN, "way(-1, 0)", ARGUMENT, one -> one.way(-1, 0));
    Checks.refused(States.OPEN, "way(64, 0)", ARGUMENT, one -> one.way(64, 0));
  }

  private static void wrongInputsAreRefused() {
    BlockGraph graph = withTwoWays();
    Checks.refused(graph, "way(63, 4)", INDEX, () -> graph.way(63, 4));
    Checks.refused(graph, "way(63, -1)", INDEX, () -> graph.way(63, -1));
    Checks.refused(graph, "way(40, 1)", INDEX, () -> graph.way(40, 1));
    Checks.refused(graph, "way of the greatest int", INDEX,
        () -> graph.way(5, Integer.MAX_VALUE));
    Checks.refused(graph, "way of the least int", INDEX, () -> graph.way(5, Integer.MIN_VALUE));
    Checks.refused(graph, "way(0, 0), not reached", INDEX, () -> graph.way(0, 0));
    Checks.refused(graph, "way(-1, 0)", ARGUMENT, () -> graph.way(-1, 0));
    Checks.refused(graph, "way(64, -1)", ARGUMENT, () -> graph.way(64, -1));
  }

  private static void itNeedsFreshWays() {
    BlockGraph graph = Probe.formatted();
    Checks.refused(graph, "way before run()", STATE, () -> graph.way(0, 0));
    Checks.refused(graph, "a wrong way before run()", STATE, () -> graph.way(64, -1));
    graph.run(0);
    graph.begin();
    graph.add(0, 1, 1);
    Checks.refused(graph, "way behind add", STATE, () -> graph.way(0, 0));
    BlockGraph down = Probe.down();
    Checks.refused(down, "way when down", STATE, () -> down.way(0, 0));
    BlockGraph none = Probe.withoutGraph();
    Checks.refused(none, "way without a graph", STATE, () -> none.way(0, 0));
  }
}

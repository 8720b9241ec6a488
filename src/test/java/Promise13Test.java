/** Promise 13: distance. */
final class Promise13Test {
  private static final Class<?> STATE = IllegalStateException.class;
  private static final Class<?> ARGUMENT = IllegalArgumentException.class;

  private Promise13Test() {}

  static void run() {
    theShortestWayCounts();
    theLongestWayIsTold();
    verticesAre0To63();
    wrongInputsAreRefused();
    itNeedsFreshWays();
  }

  private static void theShortestWayCounts() {
    BlockGraph graph = Probe.begun();
    graph.add(0, 3, 100);
    graph.add(2, 3, 10);
    graph.add(1, 2, 10);
    graph.add(0, 1, 10);
    graph.add(3, 3, 1);
    graph.add(3, 0, 1);
    graph.run(0);
    Checks.due("distance of the source", graph.distance(0), 0);
    Checks.due("distance of 1", graph.distance(1), 10);
    Checks.due("distance of 2", graph.distance(2), 20);
    Checks.due("distance of 3", graph.distance(3), 30);
    Checks.due("distance of what cannot be reached", graph.distance(4), -1);
    Checks.due("distance of the last vertex", graph.distance(63), -1);
    Checks.due("no block is looked at", graph.count(Probe.READS), 50);
  }

  /** A chain through all vertices, whose edges stand in the order that is hardest to follow. */
  private static void theLongestWayIsTold() {
    BlockGraph graph = Probe.formatted();
    for (int vertex = 62; vertex >= 0; vertex--) {
      if (vertex % 20 == 2) {
        graph.begin();
      }
      graph.add(vertex, vertex + 1, 32767);
      if (vertex % 20 == 3 || vertex == 0) {
        graph.commit();
      }
    }
    Checks.due("run() on a chain of all", graph.run(0), 64);
    Checks.due("distance of its end", graph.distance(63), 63 * 32767);
    Checks.due("parent of its end", graph.parent(63), 0);
    Checks.due("its end on the way", graph.way(63, 63), 63);
    Checks.due("vertex 17 on the way", graph.way(63, 17), 17);
  }

  private static void verticesAre0To63() {
    BlockGraph graph = States.OPEN.make();
    Checks.due("distance(0)", graph.distance(0), 0);
    Checks.due("distance(63)", graph.distance(63), 19);
    Checks.due("distance(62), not reached", graph.distance(62), -1);
    Checks.refused(States.OPEN, "distance(-1)", ARGUMENT, one -> one.distance(-1));
    Checks.refused(States.OPEN, "distance(64)", ARGUMENT, one -> one.distance(64));
  }

  private static void wrongInputsAreRefused() {
    BlockGraph graph = Probe.formatted();
    graph.run(0);
    Checks.refused(graph, "distance(-1)", ARGUMENT, () -> graph.distance(-1));
    Checks.refused(graph, "distance(64)", ARGUMENT, () -> graph.distance(64));
  }

  private static void itNeedsFreshWays() {
    BlockGraph graph = Probe.formatted();
    Checks.refused(graph, "distance before run()", STATE, () -> graph.distance(0));
    Checks.refused(graph, "a wrong distance before run()", STATE, () -> graph.distance(64));
    graph.run(0);
    graph.begin();
    graph.add(0, 1, 1);
    graph.remove(0);
    Checks.refused(graph, "distance behind add and remove", STATE, () -> graph.distance(0));
    graph.run(0);
    graph.arm(0);
    graph.commit();
    Checks.refused(graph, "distance when down", STATE, () -> graph.distance(0));
    graph.recover();
    Checks.refused(graph, "distance behind recover()", STATE, () -> graph.distance(0));
    BlockGraph none = Probe.withoutGraph();
    Checks.refused(none, "distance without a graph", STATE, () -> none.distance(0));
  }
}

/** Promise 14: parent. */
final class Promise14Test {
  private static final Class<?> STATE = IllegalStateException.class;
  private static final Class<?> ARGUMENT = IllegalArgumentException.class;

  private Promise14Test() {}

  static void run() {
    theLeastEdgeIsTheParent();
    aLesserEdgeMayComeLater();
    parentsAre0To199();
    verticesAre0To63();
    wrongInputsAreRefused();
    itNeedsFreshWays();
  }

  private static void theLeastEdgeIsTheParent() {
    BlockGraph graph = Probe.begun();
    graph.add(0, 2, 11);
    graph.add(1, 2, 5);
    graph.add(0, 2, 10);
    graph.add(0, 2, 10);
    graph.add(0, 1, 5);
    graph.add(0, 1, 5);
    graph.add(2, 0, 1);
    graph.run(0);
    Checks.due("parent of 2", graph.parent(2), 1);
    Checks.due("parent of 1", graph.parent(1), 4);
    Checks.due("parent of the source", graph.parent(0), -1);
    Checks.due("parent of what cannot be reached", graph.parent(3), -1);
    graph.remove(1);
    graph.run(0);
    Checks.due("parent of 2 without edge 1", graph.parent(2), 2);
    graph.run(2);
    Checks.due("parent of the source on a ring", graph.parent(2), -1);
    Checks.due("parent of 0 from 2", graph.parent(0), 6);
  }

  private static void aLesserEdgeMayComeLater() {
    BlockGraph graph = Probe.begun();
    graph.add(9, 9, 1);
    graph.add(0, 1, 7);
    graph.run(0);
    Checks.due("parent of 1 at first", graph.parent(1), 1);
    graph.remove(0);
    graph.add(0, 1, 7);
    graph.run(0);
    Checks.due("parent of 1 by a lesser edge", graph.parent(1), 0);
  }

  private static void parentsAre0To199() {
    BlockGraph graph = States.FULL.make();
    Checks.due("parent(1) of 200 edges to it", graph.parent(1), 0);
    graph.remove(0);
    graph.remove(199);
    graph.add(5, 6, 7);
    graph.add(0, 9, 1);
    graph.run(0);
    Checks.due("parent(1) without edge 0", graph.parent(1), 1);
    Checks.due("parent(9) by edge 199", graph.parent(9), 199);
  }

  private static void verticesAre0To63() {
    BlockGraph graph = States.OPEN.make();
    Checks.due("parent(0), the source", graph.parent(0), -1);
    Checks.due("parent(63)", graph.parent(63), 5);
    Checks.due("parent(62), not reached", graph.parent(62), -1);
    Checks.refused(States.OPEN, "parent(-1)", ARGUMENT, one -> one.parent(-1));
    Checks.refused(States.OPEN, "parent(64)", ARGUMENT, one -> one.parent(64));
  }

  private static void wrongInputsAreRefused() {
    BlockGraph graph = Probe.formatted();
    graph.run(0);
    Checks.refused(graph, "parent(-1)", ARGUMENT, () -> graph.parent(-1));
    Checks.refused(graph, "parent(64)", ARGUMENT, () -> graph.parent(64));
  }

  private static void itNeedsFreshWays() {
    BlockGraph graph = Probe.formatted();
    Checks.refused(graph, "parent before run()", STATE, () -> graph.parent(0));
    Checks.refused(graph, "a wrong parent before run()", STATE, () -> graph.parent(64));
    graph.run(0);
    graph.begin();
    graph.add(0, 1, 1);
    Checks.refused(graph, "parent behind add", STATE, () -> graph.parent(0));
    BlockGraph down = Probe.down();
    Checks.refused(down, "parent when down", STATE, () -> down.parent(0));
    BlockGraph none = Probe.withoutGraph();
    Checks.refused(none, "parent without a graph", STATE, () -> none.parent(0));
  }
}

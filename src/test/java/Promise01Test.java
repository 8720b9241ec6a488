/** Promise 1: a new object. */
final class Promise01Test {
  private Promise01Test() {}

  static void run() {
    Checks.due("NONE", BlockGraph.NONE, -1);
    Checks.due("counts of a new object", Probe.counts(new BlockGraph()), "-1 0 0 -1 0 -1 0 1");
    Checks.due("recover() of a new object", new BlockGraph().recover(), Probe.NO_GRAPH);
    recoverWritesNothing();
    everythingThatNeedsAGraphIsRefused();
    nothingIsArmed();
    theRoomIsForEight();
    objectsShareNothing();
  }

  private static void recoverWritesNothing() {
    BlockGraph graph = new BlockGraph();
    graph.arm(0);
    Checks.due("recover() of a new object, armed", graph.recover(), Probe.NO_GRAPH);
    Checks.due("counts behind it", Probe.counts(graph), "-1 0 0 -1 0 0 0 1");
  }

  private static void everythingThatNeedsAGraphIsRefused() {
    BlockGraph graph = new BlockGraph();
    Class<?> state = IllegalStateException.class;
    Checks.refused(graph, "begin() of a new object", state, graph::begin);
    Checks.refused(graph, "add of a new object", state, () -> graph.add(0, 1, 1));
    Checks.refused(graph, "remove of a new object", state, () -> graph.remove(0));
    Checks.refused(graph, "commit of a new object", state, graph::commit);
    Checks.refused(graph, "abort of a new object", state, graph::abort);
    Checks.refused(graph, "edge of a new object", state, () -> graph.edge(0, 0));
    Checks.refused(graph, "run of a new object", state, () -> graph.run(0));
    Checks.refused(graph, "distance of a new object", state, () -> graph.distance(0));
    Checks.refused(graph, "parent of a new object", state, () -> graph.parent(0));
    Checks.refused(graph, "way of a new object", state, () -> graph.way(0, 0));
    Checks.refused(graph, "atHand of a new object", IndexOutOfBoundsException.class,
        () -> graph.atHand(0));
  }

  private static void nothingIsArmed() {
    BlockGraph graph = new BlockGraph();
    for (int k = 1; k <= 20; k++) {
      Checks.due("format() number " + k + " of a new object", graph.format(), true);
    }
    Checks.due("writes behind them", graph.count(Probe.WRITES), 20 * 53);
  }

  private static void theRoomIsForEight() {
    BlockGraph graph = new BlockGraph();
    Checks.due("at hand of a new object", graph.count(Probe.AT_HAND), 0);
    graph.format();
    Checks.due("at hand with the first room", graph.count(Probe.AT_HAND), 8);
  }

  private static void objectsShareNothing() {
    BlockGraph one = Probe.begun();
    one.add(0, 1, 1);
    Checks.due("counts of another object", Probe.counts(new BlockGraph()), "-1 0 0 -1 0 -1 0 1");
  }
}

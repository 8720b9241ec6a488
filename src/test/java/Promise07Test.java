/** Promise 7: abort. */
final class Promise07Test {
  private static final Class<?> STATE = IllegalStateException.class;

  private Promise07Test() {}

  static void run() {
    operationsAreDropped();
    oneOperationIsDropped();
    noneToTwentyAreTold();
    itNeedsATransaction();
    itMakesWaysStaleIfThereWereOperations();
  }

  private static void operationsAreDropped() {
    BlockGraph graph = Probe.formatted();
    Probe.commitEdges(graph, 5);
    graph.begin();
    graph.remove(1);
    graph.add(7, 8, 9);
    graph.remove(4);
    graph.add(9, 10, 11);
    graph.add(12, 13, 14);
    Checks.due("abort() of five", graph.abort(), 5);
    Checks.due("counts behind it", Probe.counts(graph), "5 62 0 -1 8 -1 1 0");
    Checks.due("edge 1 behind it", Probe.edge(graph, 1), "0 1 1");
    Checks.due("edge 5 behind it", Probe.answer(() -> graph.edge(5, 0)), "NoSuchElementException");
    graph.begin();
    Checks.due("abort() of none", graph.abort(), 0);
    graph.begin();
    graph.commit();
    Checks.due("writes behind an empty commit()", graph.count(Probe.WRITES), 62);
  }

  private static void oneOperationIsDropped() {
    BlockGraph graph = Probe.formatted();
    Probe.commitEdges(graph, 1);
    graph.begin();
    graph.remove(0);
    graph.run(0);
    Checks.due("abort() of one", graph.abort(), 1);
    Checks.due("edges behind it", graph.count(Probe.EDGES), 1);
    Checks.refused(graph, "distance behind it", STATE, () -> graph.distance(0));
    graph.recover();
    Checks.due("edge 0 behind it", Probe.edge(graph, 0), "0 1 1");
  }

  private static void noneToTwentyAreTold() {
    BlockGraph none = States.IDLE.make();
    none.begin();
    Checks.due("abort() of nothing", none.abort(), 0);
    Checks.due("abort() of 19", States.NINETEEN.make().abort(), 19);
    BlockGraph twenty = States.TWENTY.make();
    Checks.due("abort() of 20", twenty.abort(), 20);
    Checks.due("edges behind it", twenty.count(Probe.EDGES), 5);
    BlockGraph full = States.FULL_AND_TWENTY.make();
    Checks.due("abort() of 20 new edges", full.abort(), 20);
    Checks.due("edges behind those", full.count(Probe.EDGES), 180);
    full.begin();
    Checks.due("the next number behind them", full.add(0, 1, 1), 180);
  }

  private static void itNeedsATransaction() {
    BlockGraph graph = Probe.formatted();
    Checks.refused(graph, "abort() without begin()", STATE, graph::abort);
    graph.begin();
    graph.abort();
    Checks.refused(graph, "abort() twice", STATE, graph::abort);
    BlockGraph down = Probe.down();
    Checks.refused(down, "abort() when down", STATE, down::abort);
    BlockGraph none = Probe.withoutGraph();
    Checks.refused(none, "abort() without a graph", STATE, none::abort);
  }

  private static void itMakesWaysStaleIfThereWereOperations() {
    BlockGraph graph = Probe.formatted();
    graph.run(3);
    graph.begin();
    graph.abort();
    Checks.due("distance behind abort() of none", graph.distance(3), 0);
    graph.begin();
    graph.add(0, 1, 1);
    graph.remove(0);
    graph.run(3);
    Checks.due("distance behind operations and run()", graph.distance(3), 0);
    graph.abort();
    Checks.refused(graph, "distance behind abort() of two", STATE, () -> graph.distance(3));
  }
}

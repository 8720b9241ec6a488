/** Promise 3: begin. */
final class Promise03Test {
  private Promise03Test() {}

  static void run() {
    BlockGraph graph = Probe.formatted();
    graph.begin();
    Checks.due("counts behind begin()", Probe.counts(graph), "0 53 0 0 8 -1 0 0");
    Checks.refused(graph, "begin() twice", IllegalStateException.class, graph::begin);
    graph.add(0, 1, 1);
    Checks.refused(graph, "begin() with operations", IllegalStateException.class, graph::begin);
    graph.commit();
    graph.begin();
    Checks.due("operations of a second transaction", graph.count(Probe.OPERATIONS), 0);
    graph.abort();
    graph.begin();
    Checks.due("operations of a third transaction", graph.count(Probe.OPERATIONS), 0);
    itKeepsWays();
    itIsTakenWhenTheOpenOneIsGone();
    BlockGraph down = Probe.down();
    Checks.refused(down, "begin() when down", IllegalStateException.class, down::begin);
    BlockGraph none = Probe.withoutGraph();
    Checks.refused(none, "begin() without a graph", IllegalStateException.class, none::begin);
    none.recover();
    Checks.refused(none, "begin() behind recover() without a graph", IllegalStateException.class,
        none::begin);
  }

  private static void itIsTakenWhenTheOpenOneIsGone() {
    BlockGraph graph = Probe.begun();
    graph.recover();
    graph.begin();
    Checks.due("operations behind recover() and begin()", graph.count(Probe.OPERATIONS), 0);
    graph.format();
    graph.begin();
    Checks.due("operations behind format() and begin()", graph.count(Probe.OPERATIONS), 0);
    graph.add(0, 1, 1);
    graph.arm(0);
    graph.commit();
    graph.recover();
    graph.begin();
    Checks.due("operations behind a lost one and begin()", graph.count(Probe.OPERATIONS), 0);
  }

  private static void itKeepsWays() {
    BlockGraph graph = Probe.formatted();
    graph.run(7);
    graph.begin();
    Checks.due("distance behind begin()", graph.distance(7), 0);
  }
}

/** Promise 17: count. */
final class Promise17Test {
  private Promise17Test() {}

  static void run() {
    countsOfAnOpenTransaction();
    countsWhenDown();
    countsWithoutAGraph();
    writesAndReadsAreEver();
    transactionsAreKnownLate();
    wrongInputsAreRefused();
  }

  private static void countsOfAnOpenTransaction() {
    BlockGraph graph = Probe.formatted();
    Probe.commitEdges(graph, 3);
    graph.begin();
    graph.remove(0);
    graph.remove(1);
    graph.add(5, 6, 7);
    graph.arm(9);
    graph.edge(2, 0);
    Checks.due("counts of a transaction", Probe.counts(graph), "2 59 0 3 8 9 1 0");
    graph.run(0);
    Checks.due("counts behind run()", Probe.counts(graph), "2 59 49 3 8 9 1 0");
    graph.commit();
    Checks.due("counts behind commit()", Probe.counts(graph), "2 65 49 -1 8 3 2 0");
  }

  private static void countsWhenDown() {
    BlockGraph graph = Probe.down();
    Checks.due("counts when down", Probe.counts(graph), "-1 57 0 -1 8 -1 1 1");
    graph.recover();
    Checks.due("counts behind recover()", Probe.counts(graph), "1 57 0 -1 0 -1 1 0");
  }

  private static void countsWithoutAGraph() {
    BlockGraph graph = Probe.formatted();
    Probe.commitEdges(graph, 3);
    graph.begin();
    graph.arm(3);
    graph.format();
    Checks.due("counts without a graph", Probe.counts(graph), "-1 62 0 -1 2 -1 0 1");
    graph.recover();
    Checks.due("counts behind recover()", Probe.counts(graph), "-1 62 0 -1 0 -1 0 1");
  }

  private static void writesAndReadsAreEver() {
    BlockGraph graph = Probe.formatted();
    graph.run(0);
    graph.format();
    graph.run(0);
    graph.recover();
    Checks.due("writes behind two format()", graph.count(Probe.WRITES), 106);
    Checks.due("reads behind two run()", graph.count(Probe.READS), 100);
  }

  private static void transactionsAreKnownLate() {
    BlockGraph graph = Probe.formatted();
    Probe.commitEdges(graph, 60);
    graph.begin();
    graph.commit();
    Checks.due("transactions with operations", graph.count(Probe.COMMITTED), 3);
    graph.begin();
    graph.remove(0);
    graph.arm(2);
    graph.commit();
    Checks.due("transactions when one is not known", graph.count(Probe.COMMITTED), 3);
    graph.arm(1);
    graph.recover();
    Checks.due("transactions when recover() failed", graph.count(Probe.COMMITTED), 3);
    graph.arm(0);
    graph.format();
    Checks.due("transactions when format() wrote nothing", graph.count(Probe.COMMITTED), 3);
    graph.recover();
    Checks.due("transactions when all is known", graph.count(Probe.COMMITTED), 4);
    graph.recover();
    Checks.due("transactions behind recover() twice", graph.count(Probe.COMMITTED), 4);
    graph.format();
    Checks.due("transactions behind format()", graph.count(Probe.COMMITTED), 0);
    Probe.commitEdges(graph, 1);
    Checks.due("transactions since format()", graph.count(Probe.COMMITTED), 1);
  }

  private static void wrongInputsAreRefused() {
    Class<?> argument = IllegalArgumentException.class;
    for (BlockGraph graph : new BlockGraph[] {new BlockGraph(), Probe.begun(), Probe.down()}) {
      Checks.refused(graph, "count(-1)", argument, () -> graph.count(-1));
      Checks.refused(graph, "count(8)", argument, () -> graph.count(8));
      Checks.refused(graph, "count of the least int", argument,
          () -> graph.count(Integer.MIN_VALUE));
    }
  }
}

/** Promise 2: format. */
final class Promise02Test {
  private Promise02Test() {}

  static void run() {
    aNewGraphIsEmpty();
    anOldGraphIsGone();
    anOpenTransactionIsDropped();
    waysAreStaleBehindIt();
    for (int writes = 0; writes <= 53; writes++) {
      thePowerFailsBehind(writes);
    }
    itMendsWhatIsDown();
    nothingWrittenKeepsTheOldGraph();
    anOpenTransactionIsDroppedWhereverItFails();
  }

  private static void aNewGraphIsEmpty() {
    BlockGraph graph = new BlockGraph();
    Checks.due("format()", graph.format(), true);
    Checks.due("counts behind format()", Probe.counts(graph), "0 53 0 -1 8 -1 0 0");
    Checks.due("at hand behind format()", Probe.hand(graph), "49 48 47 46 45 44 43 42");
    Checks.due("recover() behind format()", graph.recover(), Probe.UP);
  }

  private static void anOldGraphIsGone() {
    BlockGraph graph = Probe.formatted();
    Probe.commitEdges(graph, 30);
    Checks.due("format() over a graph", graph.format(), true);
    Checks.due("edges behind it", graph.count(Probe.EDGES), 0);
    Checks.due("transactions behind it", graph.count(Probe.COMMITTED), 0);
    Checks.due("edge 0 behind it", Probe.answer(() -> graph.edge(0, 0)), "NoSuchElementException");
    graph.recover();
    Checks.due("edges behind it and recover()", graph.count(Probe.EDGES), 0);
    Checks.due("transactions behind both", graph.count(Probe.COMMITTED), 0);
  }

  private static void anOpenTransactionIsDropped() {
    BlockGraph graph = Probe.begun();
    graph.add(0, 1, 1);
    graph.format();
    Checks.due("counts behind format() in a transaction", Probe.counts(graph),
        "0 106 0 -1 8 -1 0 0");
    graph.begin();
    Checks.due("operations of the next transaction", graph.count(Probe.OPERATIONS), 0);
  }

  private static void waysAreStaleBehindIt() {
    BlockGraph graph = Probe.formatted();
    graph.run(1);
    graph.format();
    Checks.refused(graph, "distance behind format()", IllegalStateException.class,
        () -> graph.distance(1));
  }

  private static void thePowerFailsBehind(int writes) {
    String name = "format() armed with " + writes;
    BlockGraph graph = Probe.formatted();
    Probe.commitEdges(graph, 1);
    int before = graph.count(Probe.WRITES);
    boolean whole = writes == 53;
    graph.arm(writes);
    Checks.due(name, graph.format(), whole);
    Checks.due(name + ": writes", graph.count(Probe.WRITES) - before, writes);
    Checks.due(name + ": armed", graph.count(Probe.ARMED), whole ? 0 : -1);
    Checks.due(name + ": down", graph.count(Probe.DOWN), whole ? 0 : 1);
    Checks.due(name + ": edges", graph.count(Probe.EDGES), whole ? 0 : -1);
    Checks.due(name + ": transactions", graph.count(Probe.COMMITTED), writes == 0 ? 1 : 0);
    int homes = Math.min(Math.max(writes - 1, 0), 50);
    Checks.due(name + ": at hand", graph.count(Probe.AT_HAND), Math.min(homes, 8));
    if (homes > 0) {
      Checks.due(name + ": latest at hand", graph.atHand(0), homes - 1);
    }
    int answer = writes == 0 || whole ? Probe.UP : Probe.NO_GRAPH;
    Checks.due(name + ", then recover()", graph.recover(), answer);
    Checks.due(name + ", then transactions", graph.count(Probe.COMMITTED), writes == 0 ? 1 : 0);
    Checks.due(name + ", then at hand", graph.count(Probe.AT_HAND), 0);
  }

  private static void itMendsWhatIsDown() {
    Checks.due("format() when down", Probe.down().format(), true);
    Checks.due("format() without a graph", Probe.withoutGraph().format(), true);
    BlockGraph graph = Probe.down();
    graph.format();
    Checks.due("edges behind format() when down", graph.count(Probe.EDGES), 0);
    Checks.due("down behind format() when down", graph.count(Probe.DOWN), 0);
  }

  /** That none is open shows in begin(), which would be refused. */
  private static void anOpenTransactionIsDroppedWhereverItFails() {
    for (int writes : new int[] {0, 1, 52, 53}) {
      BlockGraph graph = States.OPEN.make();
      graph.arm(writes);
      graph.format();
      String name = "format() with " + writes + " writes in a transaction";
      Checks.due(name + ": operations", graph.count(Probe.OPERATIONS), -1);
      graph.arm(BlockGraph.NONE);
      if (graph.recover() == Probe.NO_GRAPH) {
        graph.format();
      }
      Checks.due(name + ", then operations", graph.count(Probe.OPERATIONS), -1);
      graph.begin();
      Checks.due(name + ", then of the next", graph.count(Probe.OPERATIONS), 0);
      Checks.due(name + ", then edges", graph.count(Probe.EDGES), writes == 0 ? 5 : 0);
    }
  }

  private static void nothingWrittenKeepsTheOldGraph() {
    BlockGraph graph = Probe.formatted();
    Probe.commitEdges(graph, 3);
    graph.begin();
    graph.remove(1);
    graph.arm(0);
    Checks.due("format() without power", graph.format(), false);
    Checks.due("at hand behind it", graph.count(Probe.AT_HAND), 0);
    Checks.due("recover() behind it", graph.recover(), Probe.UP);
    Checks.due("counts behind both", Probe.counts(graph), "3 59 0 -1 0 -1 1 0");
    Checks.due("edge 1 behind both", Probe.edge(graph, 1), "0 1 1");
  }
}

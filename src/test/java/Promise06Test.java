/** Promise 6: commit. */
final class Promise06Test {
  private static final Class<?> STATE = IllegalStateException.class;
  private static final int LOG_BLOCKS = 5;
  private static final int HOME_BLOCKS = 3;
  private static final int ALL_WRITES = LOG_BLOCKS + 1 + HOME_BLOCKS + 1;

  private Promise06Test() {}

  static void run() {
    withoutOperationsNothingIsWritten();
    homeBlocksAreWrittenOnceByRisingNumbers();
    operationsThatUndoOneAnotherAreWritten();
    for (int writes = 0; writes <= ALL_WRITES; writes++) {
      thePowerFailsBehind(writes);
    }
    itNeedsATransaction();
    itKeepsWays();
  }

  private static void withoutOperationsNothingIsWritten() {
    BlockGraph graph = Probe.begun();
    graph.arm(0);
    Checks.due("commit() without operations", graph.commit(), true);
    Checks.due("counts behind it", Probe.counts(graph), "0 53 0 -1 8 0 0 0");
    Checks.refused(graph, "commit() twice", STATE, graph::commit);
  }

  /** Ends in a commit about the edges 17, 1, 17, 9 and 0, thus about the blocks 4, 0 and 2. */
  private static BlockGraph aboutThreeBlocks() {
    BlockGraph graph = Probe.formatted();
    Probe.commitEdges(graph, 20);
    graph.begin();
    graph.remove(17);
    graph.remove(1);
    Checks.due("edge 1 again", graph.add(11, 12, 13), 1);
    graph.remove(9);
    graph.remove(0);
    return graph;
  }

  private static void homeBlocksAreWrittenOnceByRisingNumbers() {
    BlockGraph graph = aboutThreeBlocks();
    int before = graph.count(Probe.WRITES);
    Checks.due("commit() about three blocks", graph.commit(), true);
    Checks.due("its writes", graph.count(Probe.WRITES) - before, ALL_WRITES);
    Checks.due("at hand behind it", Probe.hand(graph), "4 2 0 3 1 49 48 47");
    Checks.due("reads behind it", graph.count(Probe.READS), 0);
    Checks.due("edges behind it", graph.count(Probe.EDGES), 17);
    Checks.due("transactions behind it", graph.count(Probe.COMMITTED), 2);
    Checks.due("operations behind it", graph.count(Probe.OPERATIONS), -1);
  }

  private static void operationsThatUndoOneAnotherAreWritten() {
    BlockGraph graph = Probe.begun();
    graph.add(0, 1, 1);
    graph.remove(0);
    Checks.due("commit() of add and remove", graph.commit(), true);
    Checks.due("counts behind it", Probe.counts(graph), "0 58 0 -1 8 -1 1 0");
    Checks.due("latest at hand behind it", graph.atHand(0), 0);
  }

  private static void thePowerFailsBehind(int writes) {
    String name = "commit() armed with " + writes;
    BlockGraph graph = aboutThreeBlocks();
    int before = graph.count(Probe.WRITES);
    boolean whole = writes == ALL_WRITES;
    boolean committed = writes > LOG_BLOCKS;
    graph.arm(writes);
    Checks.due(name, graph.commit(), whole);
    Checks.due(name + ": writes", graph.count(Probe.WRITES) - before, writes);
    Checks.due(name + ": down", graph.count(Probe.DOWN), whole ? 0 : 1);
    Checks.due(name + ": operations", graph.count(Probe.OPERATIONS), -1);
    Checks.due(name + ": edges", graph.count(Probe.EDGES), whole ? 17 : -1);
    Checks.due(name + ": transactions", graph.count(Probe.COMMITTED), whole ? 2 : 1);
    Checks.due(name + ": armed", graph.count(Probe.ARMED), whole ? 0 : -1);
    String[] latest = {"4", "0", "2", "4"};
    int homes = Math.min(Math.max(writes - LOG_BLOCKS - 1, 0), HOME_BLOCKS);
    Checks.due(name + ": latest at hand", Integer.toString(graph.atHand(0)), latest[homes]);
    graph.arm(BlockGraph.NONE);
    Checks.due(name + ", then recover()", graph.recover(), Probe.UP);
    Checks.due(name + ", then edges", graph.count(Probe.EDGES), committed ? 17 : 20);
    Checks.due(name + ", then transactions", graph.count(Probe.COMMITTED), committed ? 2 : 1);
    Checks.due(name + ", then edge 1", Probe.edge(graph, 1), committed ? "11 12 13" : "0 1 1");
    String gone = "NoSuchElementException";
    for (int edge : new int[] {0, 9, 17}) {
      Checks.due(name + ", then edge " + edge, Probe.answer(() -> graph.edge(edge, 2)),
          committed ? gone : "1");
    }
    Checks.refused(graph, name + ", then abort()", STATE, graph::abort);
  }

  private static void itNeedsATransaction() {
    BlockGraph graph = Probe.formatted();
    Checks.refused(graph, "commit() without begin()", STATE, graph::commit);
    BlockGraph down = Probe.down();
    Checks.refused(down, "commit() when down", STATE, down::commit);
    BlockGraph none = Probe.withoutGraph();
    Checks.refused(none, "commit() without a graph", STATE, none::commit);
  }

  private static void itKeepsWays() {
    BlockGraph graph = Probe.begun();
    graph.add(0, 1, 5);
    graph.run(0);
    graph.commit();
    Checks.due("distance behind commit()", graph.distance(1), 5);
    Checks.due("parent behind commit()", graph.parent(1), 0);
    Checks.due("way behind commit()", Probe.way(graph, 1), "0 1");
  }
}

/** Promise 17: count. */
final class Promise17Test {
  private Promise17Test() {}

  static void run() {
    countsOfAnOpenTransaction();
    countsWhenDown();
    countsWithoutAGraph();
    writesAndReadsAreEver();
    transactionsAreKnownLate();
    wrongInputsAreRefused();
    edgesAreNoneTo200();
    operationsAreNoneTo20();
    blocksAtHandAreNoneTo50();
    armedWithNoWriteIsNotUnarmed();
    transactionsWithoutOperationsAreNotCounted();
    anUnmarkedTransactionIsNotCounted();
    countsAre0To7();
    the512thCallIsAnswered();
  }

  /** An object is good for 512 calls: these are the most writes and reads that there can be. */
  private static void the512thCallIsAnswered() {
    BlockGraph graph = new BlockGraph();
    for (int call = 1; call <= 511; call++) {
      graph.format();
    }
    Checks.due("writes behind 511 format()", graph.count(Probe.WRITES), 511 * 53);
    BlockGraph looked = new BlockGraph();
    looked.format();
    for (int call = 2; call <= 511; call++) {
      looked.run(call % 64);
    }
    Checks.due("reads behind 510 run()", looked.count(Probe.READS), 510 * 50);
  }

  private static void edgesAreNoneTo200() {
    Checks.due("edges of a new object", new BlockGraph().count(Probe.EDGES), -1);
    Checks.due("edges of an empty graph", Probe.formatted().count(Probe.EDGES), 0);
    Checks.due("edges of a full one", States.FULL.make().count(Probe.EDGES), 200);
    BlockGraph graph = States.FULL.make();
    graph.remove(0);
    Checks.due("edges of one that is not full", graph.count(Probe.EDGES), 199);
    graph.arm(0);
    graph.commit();
    Checks.due("edges when down", graph.count(Probe.EDGES), -1);
    graph.recover();
    Checks.due("edges behind recover()", graph.count(Probe.EDGES), 200);
  }

  private static void operationsAreNoneTo20() {
    Checks.due("operations without a transaction", States.IDLE.make().count(Probe.OPERATIONS), -1);
    Checks.due("operations behind begin()", Probe.begun().count(Probe.OPERATIONS), 0);
    Checks.due("operations, 19", States.NINETEEN.make().count(Probe.OPERATIONS), 19);
    BlockGraph graph = States.TWENTY.make();
    Checks.due("operations, 20", graph.count(Probe.OPERATIONS), 20);
    graph.arm(5);
    graph.commit();
    Checks.due("operations when down", graph.count(Probe.OPERATIONS), -1);
  }

  private static void blocksAtHandAreNoneTo50() {
    BlockGraph graph = new BlockGraph();
    Checks.due("at hand of a new object", graph.count(Probe.AT_HAND), 0);
    graph.room(50);
    graph.format();
    Checks.due("at hand with room for 50", graph.count(Probe.AT_HAND), 50);
    graph.room(1);
    Checks.due("at hand with room for 1", graph.count(Probe.AT_HAND), 1);
    graph.recover();
    Checks.due("at hand behind recover()", graph.count(Probe.AT_HAND), 0);
  }

  private static void armedWithNoWriteIsNotUnarmed() {
    BlockGraph graph = new BlockGraph();
    Checks.due("armed of a new object", graph.count(Probe.ARMED), -1);
    graph.arm(54);
    graph.format();
    Checks.due("armed with one write yet", graph.count(Probe.ARMED), 1);
    graph.arm(53);
    graph.format();
    Checks.due("armed with no write yet", graph.count(Probe.ARMED), 0);
    graph.format();
    Checks.due("armed behind the failure", graph.count(Probe.ARMED), -1);
  }

  private static void transactionsWithoutOperationsAreNotCounted() {
    BlockGraph graph = Probe.formatted();
    graph.begin();
    graph.commit();
    Checks.due("transactions, one without operations", graph.count(Probe.COMMITTED), 0);
    graph.begin();
    graph.add(0, 1, 1);
    graph.abort();
    Checks.due("transactions, one that was dropped", graph.count(Probe.COMMITTED), 0);
    graph.begin();
    graph.add(0, 1, 1);
    Checks.due("transactions, one that is open", graph.count(Probe.COMMITTED), 0);
    graph.commit();
    Checks.due("transactions, one with an operation", graph.count(Probe.COMMITTED), 1);
  }

  private static void anUnmarkedTransactionIsNotCounted() {
    for (int writes = 0; writes <= 4; writes++) {
      BlockGraph graph = States.IDLE.make();
      graph.begin();
      graph.remove(0);
      graph.arm(writes);
      String name = "transactions behind a commit() with " + writes + " of 4 writes";
      graph.commit();
      Checks.due(name, graph.count(Probe.COMMITTED), writes == 4 ? 2 : 1);
      graph.recover();
      Checks.due(name + ", and recover()", graph.count(Probe.COMMITTED), writes >= 2 ? 2 : 1);
    }
  }

  private static void countsAre0To7() {
    BlockGraph graph = States.OPEN.make();
    Checks.due("count(0)", graph.count(0), 5);
    Checks.due("count(7)", graph.count(7), 0);
    for (States.State state : new States.State[] {States.NEW, States.IDLE, States.OPEN}) {
      Checks.refused(state, "count(-1)", IllegalArgumentException.class, one -> one.count(-1));
      Checks.refused(state, "count(8)", IllegalArgumentException.class, one -> one.count(8));
    }
  }

  private static void countsOfAnOpenTransaction() {
    BlockGraph graph = Probe.formatted();
    Probe.commitEdges(graph, 3);
    graph.begin();
    graph.remove(0);
    graph.remove(1);
    graph.add(5, 6, 7);
    graph.arm(9);
    graph.edge(2, 0);
    Checks.due("counts of a transaction", Probe.counts(graph), "2 59 0 3 8 9 1 0");
    graph.run(0);
    Checks.due("counts behind run()", Probe.counts(graph), "2 59 49 3 8 9 1 0");
    graph.commit();
    Checks.due("counts behind commit()", Probe.counts(graph), "2 65 49 -1 8 3 2 0");
  }

  private static void countsWhenDown() {
    BlockGraph graph = Probe.down();
    Checks.due("counts when down", Probe.counts(graph), "-1 57 0 -1 8 -1 1 1");
    graph.recover();
    Checks.due("counts behind recover()", Probe.counts(graph), "1 57 0 -1 0 -1 1 0");
  }

  private static void countsWithoutAGraph() {
    BlockGraph graph = Probe.formatted();
    Probe.commitEdges(graph, 3);
    graph.begin();
    graph.arm(3);
    graph.format();
    Checks.due("counts without a graph", Probe.counts(graph), "-1 62 0 -1 2 -1 0 1");
    graph.recover();
    Checks.due("counts behind recover()", Probe.counts(graph), "-1 62 0 -1 0 -1 0 1");
  }

  private static void writesAndReadsAreEver() {
    BlockGraph graph = Probe.formatted();
    graph.run(0);
    graph.format();
    graph.run(0);
    graph.recover();
    Checks.due("writes behind two format()", graph.count(Probe.WRITES), 106);
    Checks.due("reads behind two run()", graph.count(Probe.READS), 100);
  }

  private static void transactionsAreKnownLate() {
    BlockGraph graph = Probe.formatted();
    Probe.commitEdges(graph, 60);
    graph.begin();
    graph.commit();
    Checks.due("transactions with operations", graph.count(Probe.COMMITTED), 3);
    graph.begin();
    graph.remove(0);
    graph.arm(2);
    graph.commit();
    Checks.due("transactions when one is not known", graph.count(Probe.COMMITTED), 3);
    graph.arm(1);
    graph.recover();
    Checks.due("transactions when recover() failed", graph.count(Probe.COMMITTED), 3);
    graph.arm(0);
    graph.format();
    Checks.due("transactions when format() wrote nothing", graph.count(Probe.COMMITTED), 3);
    graph.recover();
    Checks.due("transactions when all is known", graph.count(Probe.COMMITTED), 4);
    graph.recover();
    Checks.due("transactions behind recover() twice", graph.count(Probe.COMMITTED), 4);
    graph.format();
    Checks.due("transactions behind format()", graph.count(Probe.COMMITTED), 0);
    Probe.commitEdges(graph, 1);
    Checks.due("transactions since format()", graph.count(Probe.COMMITTED), 1);
  }

  private static void wrongInputsAreRefused() {
    Class<?> argument = IllegalArgumentException.class;
    for (BlockGraph graph : new BlockGraph[] {new BlockGraph(), Probe.begun(), Probe.down()}) {
      Checks.refused(graph, "count(-1)", argument, () -> graph.count(-1));
      Checks.refused(graph, "count(8)", argument, () -> graph.count(8));
      Checks.refused(graph, "count of the least int", argument,
          () -> graph.count(Integer.MIN_VALUE));
    }
  }
}

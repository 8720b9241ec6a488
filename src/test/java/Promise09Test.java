/** Promise 9: recover. */
final class Promise09Test {
  private static final int HOME_BLOCKS = 3;

  private Promise09Test() {}

  static void run() {
    whatIsUpIsReadAgain();
    aLogThatIsNotMarkedIsNothing();
    for (int writes = 0; writes <= HOME_BLOCKS + 1; writes++) {
      thePowerFailsBehind(writes);
    }
    itMayFailAgainAndAgain();
    aLogIsBroughtHomeOnce();
    whereNoGraphIsNoneComes();
    anOpenTransactionIsDropped();
    aFullLogWithoutAGraphIsWrittenByItsMark();
  }

  private static void whatIsUpIsReadAgain() {
    BlockGraph graph = Probe.formatted();
    Probe.commitEdges(graph, 5);
    graph.begin();
    graph.remove(0);
    graph.add(7, 8, 9);
    graph.run(0);
    Checks.due("recover() when up", graph.recover(), Probe.UP);
    Checks.due("counts behind it", Probe.counts(graph), "5 62 48 -1 0 -1 1 0");
    Checks.due("edge 0 behind it", Probe.edge(graph, 0), "0 1 1");
    Checks.refused(graph, "abort() behind it", IllegalStateException.class, graph::abort);
    Checks.refused(graph, "distance behind it", IllegalStateException.class,
        () -> graph.distance(0));
  }

  private static void aLogThatIsNotMarkedIsNothing() {
    BlockGraph graph = Probe.down();
    Checks.due("recover() behind a lost transaction", graph.recover(), Probe.UP);
    Checks.due("counts behind it", Probe.counts(graph), "1 57 0 -1 0 -1 1 0");
  }

  private static void thePowerFailsBehind(int writes) {
    String name = "recover() armed with " + writes;
    String[] hands = {"", "1", "3 1", "4 3 1", "4 3 1"};
    BlockGraph graph = Probe.withFullLog();
    int before = graph.count(Probe.WRITES);
    boolean whole = writes == HOME_BLOCKS + 1;
    graph.arm(writes);
    Checks.due(name, graph.recover(), whole ? Probe.UP : Probe.POWER_FAILED);
    Checks.due(name + ": writes", graph.count(Probe.WRITES) - before, writes);
    Checks.due(name + ": at hand", Probe.hand(graph), hands[writes]);
    Checks.due(name + ": down", graph.count(Probe.DOWN), whole ? 0 : 1);
    Checks.due(name + ": edges", graph.count(Probe.EDGES), whole ? 15 : -1);
    Checks.due(name + ": armed", graph.count(Probe.ARMED), whole ? 0 : -1);
    Checks.due(name + ": transactions", graph.count(Probe.COMMITTED), whole ? 2 : 1);
    graph.arm(BlockGraph.NONE);
    Checks.due(name + ", then recover()", graph.recover(), Probe.UP);
    int again = whole ? 0 : HOME_BLOCKS + 1;
    Checks.due(name + ", then writes", graph.count(Probe.WRITES) - before, writes + again);
    Checks.due(name + ", then edges", graph.count(Probe.EDGES), 15);
    Checks.due(name + ", then edge 5", Probe.edge(graph, 5), "20 21 22");
    Checks.due(name + ", then transactions", graph.count(Probe.COMMITTED), 2);
  }

  private static void itMayFailAgainAndAgain() {
    BlockGraph graph = Probe.withFullLog();
    for (int k = 0; k < 5; k++) {
      graph.arm(k % 4);
      Checks.due("recover() without power for all", graph.recover(), Probe.POWER_FAILED);
      Checks.due("transactions then", graph.count(Probe.COMMITTED), 1);
    }
    Checks.due("recover() with power", graph.recover(), Probe.UP);
    Checks.due("edges then", graph.count(Probe.EDGES), 15);
    Checks.due("transactions then", graph.count(Probe.COMMITTED), 2);
  }

  private static void aLogIsBroughtHomeOnce() {
    BlockGraph graph = Probe.withFullLog();
    graph.recover();
    graph.begin();
    graph.remove(5);
    graph.commit();
    int before = graph.count(Probe.WRITES);
    Checks.due("recover() once more", graph.recover(), Probe.UP);
    Checks.due("its writes", graph.count(Probe.WRITES) - before, 0);
    Checks.due("edges then", graph.count(Probe.EDGES), 14);
    Checks.due("transactions then", graph.count(Probe.COMMITTED), 3);
  }

  private static void anOpenTransactionIsDropped() {
    for (States.State state : new States.State[] {States.OPEN, States.NINETEEN, States.TWENTY}) {
      BlockGraph graph = state.make();
      int before = graph.count(Probe.WRITES);
      Checks.due("recover() " + state.name(), graph.recover(), Probe.UP);
      Checks.due("operations behind it", graph.count(Probe.OPERATIONS), -1);
      Checks.due("edges behind it", graph.count(Probe.EDGES), 5);
      Checks.due("writes behind it", graph.count(Probe.WRITES), before);
      Checks.due("edge 1 behind it", Probe.edge(graph, 1), "1 2 5");
      graph.begin();
      Checks.due("the next number behind it", graph.add(0, 1, 1), 5);
      Checks.due("the operations of the next", graph.count(Probe.OPERATIONS), 1);
    }
  }

  private static void whereNoGraphIsNoneComes() {
    BlockGraph graph = Probe.withoutGraph();
    graph.arm(0);
    Checks.due("recover() without a graph", graph.recover(), Probe.NO_GRAPH);
    Checks.due("counts behind it", Probe.counts(graph), "-1 54 0 -1 0 0 0 1");
    graph.arm(52);
    graph.format();
    Checks.due("at hand behind a broken format()", graph.count(Probe.AT_HAND), 8);
    Checks.due("recover() behind it", graph.recover(), Probe.NO_GRAPH);
    Checks.due("at hand behind both", graph.count(Probe.AT_HAND), 0);
  }

  /** The document lets the mark alone say whether recover() writes. */
  private static void aFullLogWithoutAGraphIsWrittenByItsMark() {
    BlockGraph graph = Probe.withFullLog();
    graph.arm(1);
    graph.format();
    int before = graph.count(Probe.WRITES);
    graph.arm(2);
    Checks.due("recover() of a log without a graph", graph.recover(), Probe.POWER_FAILED);
    Checks.due("recover() of it with power", graph.recover(), Probe.NO_GRAPH);
    Checks.due("writes of both", graph.count(Probe.WRITES) - before, 2 + HOME_BLOCKS + 1);
    Checks.due("transactions then", graph.count(Probe.COMMITTED), 0);
    Checks.due("down then", graph.count(Probe.DOWN), 1);
    graph.arm(0);
    Checks.due("recover() of it once more", graph.recover(), Probe.NO_GRAPH);
    graph.arm(BlockGraph.NONE);
    Checks.due("format() over it", graph.format(), true);
    Checks.due("edges then", graph.count(Probe.EDGES), 0);
    Checks.due("recover() behind it", graph.recover(), Probe.UP);
    Checks.due("edges behind all", graph.count(Probe.EDGES), 0);
  }
}

/** Promise 11: room. */
final class Promise11Test {
  private Promise11Test() {}

  static void run() {
    theOldestGo();
    oneTooManyGoes();
    roomIs1To50();
    itLastsBehindFormatAndRecover();
    allBlocksMayBeAtHand();
    wrongInputsAreRefused();
    itIsTakenWhenDown();
  }

  private static void theOldestGo() {
    BlockGraph graph = Probe.formatted();
    graph.room(3);
    Checks.due("at hand behind room(3)", Probe.hand(graph), "49 48 47");
    graph.room(5);
    Checks.due("at hand behind room(5)", Probe.hand(graph), "49 48 47");
    Probe.commitEdges(graph, 12);
    Checks.due("at hand behind a commit", Probe.hand(graph), "2 1 0 49 48");
    graph.room(1);
    Checks.due("at hand behind room(1)", Probe.hand(graph), "2");
    graph.edge(0, 0);
    Checks.due("at hand behind a look", Probe.hand(graph), "0");
    graph.edge(3, 0);
    graph.edge(4, 0);
    Checks.due("reads with room for one", graph.count(Probe.READS), 2);
  }

  private static void oneTooManyGoes() {
    BlockGraph graph = Probe.formatted();
    graph.room(9);
    Checks.due("at hand with room for one more", Probe.hand(graph), "49 48 47 46 45 44 43 42");
    graph.room(8);
    Checks.due("at hand with room for them", Probe.hand(graph), "49 48 47 46 45 44 43 42");
    graph.room(7);
    Checks.due("at hand with room for one less", Probe.hand(graph), "49 48 47 46 45 44 43");
    graph.room(8);
    Checks.due("what went does not come again", Probe.hand(graph), "49 48 47 46 45 44 43");
    Probe.commitEdges(graph, 1);
    Checks.due("at hand with the eighth one", Probe.hand(graph), "0 49 48 47 46 45 44 43");
    Probe.commitEdges(graph, 5);
    Checks.due("at hand with a ninth one", Probe.hand(graph), "1 0 49 48 47 46 45 44");
  }

  private static void roomIs1To50() {
    Class<?> argument = IllegalArgumentException.class;
    BlockGraph graph = States.OPEN.make();
    graph.room(1);
    Checks.due("at hand behind room(1)", Probe.hand(graph), "49");
    graph.room(50);
    graph.run(0);
    Checks.due("at hand behind room(50)", graph.count(Probe.AT_HAND), 50);
    for (States.State state : new States.State[] {States.NEW, States.IDLE, States.OPEN}) {
      Checks.refused(state, "room(0)", argument, one -> one.room(0));
      Checks.refused(state, "room(-1)", argument, one -> one.room(-1));
      Checks.refused(state, "room(51)", argument, one -> one.room(51));
    }
  }

  private static void itLastsBehindFormatAndRecover() {
    BlockGraph graph = new BlockGraph();
    graph.room(2);
    graph.format();
    Checks.due("at hand behind format()", Probe.hand(graph), "49 48");
    graph.recover();
    Checks.due("at hand behind recover()", Probe.hand(graph), "");
    graph.run(0);
    Checks.due("at hand behind run()", Probe.hand(graph), "49 48");
    graph.room(10);
    graph.recover();
    graph.run(0);
    Checks.due("at hand with more room", Probe.hand(graph), "49 48 47 46 45 44 43 42 41 40");
  }

  private static void allBlocksMayBeAtHand() {
    BlockGraph graph = new BlockGraph();
    graph.room(50);
    graph.format();
    Checks.due("at hand with room for all", graph.count(Probe.AT_HAND), 50);
    Checks.due("the oldest one", graph.atHand(49), 0);
    graph.run(0);
    Checks.due("reads when all are at hand", graph.count(Probe.READS), 0);
    graph.room(49);
    Checks.due("at hand behind room(49)", graph.count(Probe.AT_HAND), 49);
    Checks.due("the oldest one then", graph.atHand(48), 1);
  }

  private static void wrongInputsAreRefused() {
    BlockGraph graph = Probe.formatted();
    Class<?> argument = IllegalArgumentException.class;
    Checks.refused(graph, "room(0)", argument, () -> graph.room(0));
    Checks.refused(graph, "room(-1)", argument, () -> graph.room(-1));
    Checks.refused(graph, "room(51)", argument, () -> graph.room(51));
    Checks.refused(graph, "room of the least int", argument, () -> graph.room(Integer.MIN_VALUE));
    graph.run(0);
    Checks.due("at hand behind refused ones", graph.count(Probe.AT_HAND), 8);
  }

  private static void itIsTakenWhenDown() {
    BlockGraph graph = Probe.down();
    graph.room(2);
    Checks.due("at hand behind room(2) when down", Probe.hand(graph), "0 49");
    Checks.refused(graph, "room(0) when down", IllegalArgumentException.class,
        () -> graph.room(0));
  }
}

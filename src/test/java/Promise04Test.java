/** Promise 4: add. */
final class Promise04Test {
  private static final Class<?> STATE = IllegalStateException.class;
  private static final Class<?> ARGUMENT = IllegalArgumentException.class;
  private static final Class<?> UNSUPPORTED = UnsupportedOperationException.class;

  private Promise04Test() {}

  static void run() {
    numbersAreTheLeastFree();
    theTwentiethOperationIsTheLast();
    theTwoHundredthEdgeIsTheLast();
    visibleEdgesAreCountedNotCommittedOnes();
    edgesMayBeLoopsOrTheSame();
    wrongInputsAreRefused();
    twentyOperationsAreTheMost();
    twoHundredEdgesAreTheMost();
    itNeedsATransaction();
    itMakesWaysStale();
  }

  private static void numbersAreTheLeastFree() {
    BlockGraph graph = Probe.begun();
    Checks.due("first edge", graph.add(0, 1, 1), 0);
    Checks.due("second edge", graph.add(1, 2, 2), 1);
    Checks.due("third edge", graph.add(2, 3, 3), 2);
    graph.remove(1);
    Checks.due("edge behind a pending one's remove", graph.add(4, 5, 6), 1);
    Checks.due("edge 1 is the new one", Probe.edge(graph, 1), "4 5 6");
    Checks.due("edge behind that", graph.add(5, 6, 7), 3);
    graph.commit();
    graph.begin();
    graph.remove(2);
    graph.remove(0);
    Checks.due("edge behind a committed one's remove", graph.add(7, 8, 9), 0);
    Checks.due("operations", graph.count(Probe.OPERATIONS), 3);
    Checks.due("edges", graph.count(Probe.EDGES), 3);
    graph.abort();
    graph.begin();
    Checks.due("edge behind abort()", graph.add(7, 8, 9), 4);
    Checks.due("edge 0 behind abort()", Probe.edge(graph, 0), "0 1 1");
  }

  private static void theTwentiethOperationIsTheLast() {
    BlockGraph graph = States.NINETEEN.make();
    Checks.due("operations before the last one", graph.count(Probe.OPERATIONS), 19);
    Checks.due("add as the 20th operation", graph.add(0, 1, 1), 6);
    Checks.due("operations behind it", graph.count(Probe.OPERATIONS), 20);
    Checks.due("commit() of 20", graph.commit(), true);
    Checks.due("edge 6 behind it", Probe.edge(graph, 6), "0 1 1");
    Checks.refused(States.TWENTY, "add", UNSUPPORTED, one -> one.add(0, 1, 1));
  }

  private static void theTwoHundredthEdgeIsTheLast() {
    BlockGraph graph = Probe.formatted();
    Probe.commitEdges(graph, 199);
    graph.begin();
    Checks.due("add as the 200th edge", graph.add(63, 63, 32767), 199);
    Checks.due("edges behind it", graph.count(Probe.EDGES), 200);
    Checks.refused(graph, "add of one more", UNSUPPORTED, () -> graph.add(0, 1, 1));
    Checks.due("commit() of it", graph.commit(), true);
    Checks.due("edge 199 behind it", Probe.edge(graph, 199), "63 63 32767");
    Checks.refused(States.FULL, "add", UNSUPPORTED, one -> one.add(0, 1, 1));
  }

  private static void visibleEdgesAreCountedNotCommittedOnes() {
    BlockGraph graph = States.FULL.make();
    graph.remove(199);
    graph.remove(0);
    Checks.due("add in place of edge 0", graph.add(1, 2, 3), 0);
    Checks.due("add in place of edge 199", graph.add(4, 5, 6), 199);
    Checks.due("operations of all", graph.count(Probe.OPERATIONS), 4);
    Checks.refused(graph, "add of one more", UNSUPPORTED, () -> graph.add(0, 1, 1));
    graph.abort();
    graph.begin();
    Checks.refused(graph, "add behind abort()", UNSUPPORTED, () -> graph.add(0, 1, 1));
    Checks.due("edge 199 behind abort()", Probe.edge(graph, 199), "0 1 1");
  }

  private static void edgesMayBeLoopsOrTheSame() {
    BlockGraph graph = Probe.begun();
    Checks.due("a loop", graph.add(63, 63, 32767), 0);
    Checks.due("the same loop", graph.add(63, 63, 32767), 1);
    Checks.due("its parts", Probe.edge(graph, 1), "63 63 32767");
    Checks.due("the least edge", graph.add(0, 0, 1), 2);
    Checks.due("its parts", Probe.edge(graph, 2), "0 0 1");
    Checks.due("no block is looked at, none written", graph.count(Probe.WRITES), 53);
  }

  private static void wrongInputsAreRefused() {
    BlockGraph graph = Probe.begun();
    graph.add(0, 1, 1);
    Checks.refused(graph, "add(-1, 0, 1)", ARGUMENT, () -> graph.add(-1, 0, 1));
    Checks.refused(graph, "add(64, 0, 1)", ARGUMENT, () -> graph.add(64, 0, 1));
    Checks.refused(graph, "add(0, -1, 1)", ARGUMENT, () -> graph.add(0, -1, 1));
    Checks.refused(graph, "add(0, 64, 1)", ARGUMENT, () -> graph.add(0, 64, 1));
    Checks.refused(graph, "add(0, 1, 0)", ARGUMENT, () -> graph.add(0, 1, 0));
    Checks.refused(graph, "add(0, 1, -1)", ARGUMENT, () -> graph.add(0, 1, -1));
    Checks.refused(graph, "add(0, 1, 32768)", ARGUMENT, () -> graph.add(0, 1, 32768));
    Checks.refused(graph, "add of the greatest ints", ARGUMENT,
        () -> graph.add(Integer.MAX_VALUE, Integer.MIN_VALUE, Integer.MAX_VALUE));
    Checks.due("edge behind refused ones", graph.add(1, 2, 3), 1);
  }

  private static void twentyOperationsAreTheMost() {
    BlockGraph graph = Probe.begun();
    for (int k = 0; k < 10; k++) {
      Checks.due("edge added again", graph.add(k, k, k + 1), 0);
      graph.remove(0);
    }
    Checks.refused(graph, "add of a 21st operation", UNSUPPORTED, () -> graph.add(0, 1, 1));
    Checks.refused(graph, "a wrong add of a 21st", ARGUMENT, () -> graph.add(0, 1, 0));
    graph.commit();
    graph.begin();
    Checks.due("add in the next transaction", graph.add(0, 1, 1), 0);
  }

  private static void twoHundredEdgesAreTheMost() {
    BlockGraph graph = Probe.formatted();
    Probe.commitEdges(graph, 180);
    graph.begin();
    for (int k = 0; k < 19; k++) {
      graph.add(2, 3, 4);
    }
    graph.commit();
    graph.begin();
    Checks.due("the last edge", graph.add(5, 6, 7), 199);
    Checks.due("edges", graph.count(Probe.EDGES), 200);
    Checks.refused(graph, "add of a 201st edge", UNSUPPORTED, () -> graph.add(0, 1, 1));
    Checks.refused(graph, "a wrong add of a 201st", ARGUMENT, () -> graph.add(64, 1, 1));
    graph.remove(77);
    Checks.due("add behind a remove", graph.add(8, 9, 10), 77);
    graph.commit();
    graph.recover();
    Checks.due("edges behind recover()", graph.count(Probe.EDGES), 200);
    Checks.due("edge 77 behind recover()", Probe.edge(graph, 77), "8 9 10");
    Checks.due("edge 199 behind recover()", Probe.edge(graph, 199), "5 6 7");
  }

  private static void itNeedsATransaction() {
    BlockGraph graph = Probe.formatted();
    Checks.refused(graph, "add without begin()", STATE, () -> graph.add(0, 1, 1));
    Checks.refused(graph, "a wrong add without begin()", STATE, () -> graph.add(64, 1, 0));
    BlockGraph down = Probe.down();
    Checks.refused(down, "add when down", STATE, () -> down.add(0, 1, 1));
    BlockGraph none = Probe.withoutGraph();
    Checks.refused(none, "add without a graph", STATE, () -> none.add(0, 1, 1));
  }

  private static void itMakesWaysStale() {
    BlockGraph graph = Probe.begun();
    graph.run(0);
    Checks.refused(graph, "a wrong add behind run()", ARGUMENT, () -> graph.add(0, 64, 1));
    Checks.due("distance behind a wrong add", graph.distance(0), 0);
    graph.add(5, 6, 7);
    Checks.refused(graph, "distance behind add", STATE, () -> graph.distance(0));
  }
}

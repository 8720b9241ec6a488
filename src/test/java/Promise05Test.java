import java.util.NoSuchElementException;

/** Promise 5: remove. */
final class Promise05Test {
  private static final Class<?> STATE = IllegalStateException.class;
  private static final Class<?> NO_ELEMENT = NoSuchElementException.class;

  private Promise05Test() {}

  static void run() {
    visibleEdgesGo();
    wrongEdgesAreRefused();
    twentyOperationsAreTheMost();
    theTwentiethOperationIsTheLast();
    theFirstAndTheLastEdgeGo();
    itNeedsATransaction();
    itMakesWaysStale();
  }

  private static void visibleEdgesGo() {
    BlockGraph graph = Probe.formatted();
    Probe.commitEdges(graph, 6);
    graph.begin();
    graph.remove(5);
    Checks.due("counts behind a remove", Probe.counts(graph), "5 63 0 1 8 -1 1 0");
    Checks.due("edge 5", Probe.answer(() -> graph.edge(5, 0)), "NoSuchElementException");
    Checks.due("edge 4", Probe.edge(graph, 4), "0 1 1");
    graph.add(2, 3, 4);
    graph.remove(5);
    Checks.due("edges behind a pending one's remove", graph.count(Probe.EDGES), 5);
    Checks.due("operations", graph.count(Probe.OPERATIONS), 3);
    graph.commit();
    graph.recover();
    Checks.due("edges behind recover()", graph.count(Probe.EDGES), 5);
    Checks.due("edge 5 behind recover()", Probe.answer(() -> graph.edge(5, 0)),
        "NoSuchElementException");
  }

  private static void wrongEdgesAreRefused() {
    BlockGraph graph = Probe.begun();
    graph.add(0, 1, 1);
    Checks.refused(graph, "remove(1)", NO_ELEMENT, () -> graph.remove(1));
    Checks.refused(graph, "remove(-1)", NO_ELEMENT, () -> graph.remove(-1));
    Checks.refused(graph, "remove(199)", NO_ELEMENT, () -> graph.remove(199));
    Checks.refused(graph, "remove(200)", NO_ELEMENT, () -> graph.remove(200));
    Checks.refused(graph, "remove of the least int", NO_ELEMENT,
        () -> graph.remove(Integer.MIN_VALUE));
    graph.remove(0);
    Checks.refused(graph, "remove twice", NO_ELEMENT, () -> graph.remove(0));
  }

  private static void twentyOperationsAreTheMost() {
    BlockGraph graph = Probe.begun();
    for (int k = 0; k < 20; k++) {
      graph.add(0, 1, 1);
    }
    Checks.refused(graph, "remove of a 21st operation", UnsupportedOperationException.class,
        () -> graph.remove(0));
    Checks.refused(graph, "a wrong remove of a 21st", NO_ELEMENT, () -> graph.remove(20));
    graph.commit();
    graph.begin();
    for (int k = 0; k < 20; k++) {
      graph.remove(k);
    }
    Checks.due("edges behind 20 removes", graph.count(Probe.EDGES), 0);
  }

  private static void theTwentiethOperationIsTheLast() {
    BlockGraph graph = States.NINETEEN.make();
    graph.remove(0);
    Checks.due("operations behind a 20th", graph.count(Probe.OPERATIONS), 20);
    Checks.due("edges behind it", graph.count(Probe.EDGES), 5);
    Checks.due("commit() of 20", graph.commit(), true);
    Checks.due("edge 0 behind it", Probe.answer(() -> graph.edge(0, 0)), "NoSuchElementException");
    Checks.refused(States.TWENTY, "remove(0)", UnsupportedOperationException.class,
        one -> one.remove(0));
  }

  private static void theFirstAndTheLastEdgeGo() {
    BlockGraph graph = States.FULL.make();
    graph.remove(0);
    graph.remove(199);
    Checks.due("edges behind two removes", graph.count(Probe.EDGES), 198);
    Checks.refused(graph, "remove(0) again", NO_ELEMENT, () -> graph.remove(0));
    Checks.refused(graph, "remove(199) again", NO_ELEMENT, () -> graph.remove(199));
    Checks.refused(States.OPEN, "remove(1), which is removed", NO_ELEMENT, one -> one.remove(1));
    Checks.refused(States.OPEN, "remove(6), one behind the last", NO_ELEMENT,
        one -> one.remove(6));
    Checks.refused(States.OPEN, "remove(-1)", NO_ELEMENT, one -> one.remove(-1));
    Checks.refused(States.FULL, "remove(200)", NO_ELEMENT, one -> one.remove(200));
  }

  private static void itNeedsATransaction() {
    BlockGraph graph = Probe.formatted();
    Probe.commitEdges(graph, 1);
    Checks.refused(graph, "remove without begin()", STATE, () -> graph.remove(0));
    Checks.refused(graph, "a wrong remove without begin()", STATE, () -> graph.remove(9));
    BlockGraph down = Probe.down();
    Checks.refused(down, "remove when down", STATE, () -> down.remove(0));
    BlockGraph none = Probe.withoutGraph();
    Checks.refused(none, "remove without a graph", STATE, () -> none.remove(0));
  }

  private static void itMakesWaysStale() {
    BlockGraph graph = Probe.begun();
    graph.add(5, 6, 7);
    graph.run(0);
    Checks.refused(graph, "a wrong remove behind run()", NO_ELEMENT, () -> graph.remove(1));
    Checks.due("distance behind a wrong remove", graph.distance(0), 0);
    graph.remove(0);
    Checks.refused(graph, "distance behind remove", STATE, () -> graph.distance(0));
  }
}

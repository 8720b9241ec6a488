import java.util.function.Consumer;

/** Terms, 3: what run() looks at, distances and parents, and when they are STALE. */
final class TermsWaysTest {
  private TermsWaysTest() {}

  static void run() {
    runLooksAtAllHomeBlocks();
    runLooksByRisingNumbers();
    theDistanceIsTheLeastSum();
    theParentIsTheLeastEdge();
    theParentLeadsFromAVertexThatCanBeReached();
    theSourceHasNoParent();
    freshWaysStayFresh();
    changesMakeThemStale();
    theyAreStaleBeforeTheFirstRun();
    refusedChangesKeepThemFresh();
    anotherRunMakesThemFresh();
  }

  /** "run() looks at all home blocks, 0 .. 49": with room for 49 each one went before it comes. */
  private static void runLooksAtAllHomeBlocks() {
    int[] rooms = {1, 8, 49, 50};
    int[] readsOfSecond = {50, 50, 50, 0};
    for (int k = 0; k < rooms.length; k++) {
      BlockGraph graph = Probe.formatted();
      graph.recover();
      graph.room(rooms[k]);
      graph.run(0);
      Checks.due("reads of run() with room " + rooms[k], graph.count(Probe.READS), 50);
      Checks.due("at hand behind it", graph.count(Probe.AT_HAND), rooms[k]);
      Checks.due("the latest at hand", graph.atHand(0), 49);
      Checks.due("the oldest at hand", graph.atHand(rooms[k] - 1), 50 - rooms[k]);
      graph.run(0);
      Checks.due("reads of both", graph.count(Probe.READS), 50 + readsOfSecond[k]);
    }
  }

  private static void runLooksByRisingNumbers() {
    BlockGraph graph = Probe.formatted();
    Probe.commitEdges(graph, 4);
    graph.room(2);
    Checks.due("at hand before run()", Probe.hand(graph), "0 49");
    graph.run(0);
    Checks.due("block 0 was there, 49 was not any more", graph.count(Probe.READS), 49);
  }

  private static void theDistanceIsTheLeastSum() {
    BlockGraph graph = Probe.begun();
    graph.add(0, 2, 12);
    graph.add(0, 1, 5);
    graph.add(1, 2, 6);
    graph.run(0);
    Checks.due("a detour that is shorter by one", graph.distance(2), 11);
    Checks.due("its parent", graph.parent(2), 2);
    graph.remove(0);
    graph.add(0, 2, 10);
    graph.run(0);
    Checks.due("a detour that is longer by one", graph.distance(2), 10);
    Checks.due("the parent without it", graph.parent(2), 0);
    graph.remove(1);
    graph.remove(0);
    graph.run(0);
    Checks.due("no way at all", graph.distance(2), -1);
    Checks.due("its parent", graph.parent(2), -1);
  }

  private static void theParentIsTheLeastEdge() {
    BlockGraph graph = Probe.begun();
    graph.add(0, 1, 6);
    graph.add(2, 1, 3);
    graph.add(0, 1, 5);
    graph.add(0, 2, 2);
    graph.add(0, 1, 5);
    graph.add(0, 1, 4);
    graph.remove(5);
    graph.run(0);
    Checks.due("the least of three ways of one length", graph.parent(1), 1);
    graph.remove(1);
    graph.run(0);
    Checks.due("the least of two edges of one weight", graph.parent(1), 2);
    graph.remove(2);
    graph.run(0);
    Checks.due("the greater one", graph.parent(1), 4);
    graph.remove(4);
    graph.run(0);
    Checks.due("the one that is longer by one", graph.parent(1), 0);
    Checks.due("its distance", graph.distance(1), 6);
  }

  /** The distance of the others is told as -1, and must not be counted with. */
  private static void theParentLeadsFromAVertexThatCanBeReached() {
    BlockGraph graph = Probe.begun();
    graph.add(9, 1, 6);
    graph.add(0, 1, 5);
    graph.add(9, 0, 1);
    graph.add(9, 8, 1);
    Checks.due("run(0) beside a vertex that leads to it", graph.run(0), 2);
    Checks.due("distance(1)", graph.distance(1), 5);
    Checks.due("parent(1)", graph.parent(1), 1);
    Checks.due("parent(0)", graph.parent(0), -1);
    Checks.due("distance(8)", graph.distance(8), -1);
    Checks.due("parent(8)", graph.parent(8), -1);
  }

  private static void theSourceHasNoParent() {
    BlockGraph graph = Probe.begun();
    graph.add(0, 0, 1);
    graph.add(0, 1, 1);
    graph.add(1, 0, 1);
    graph.run(0);
    Checks.due("parent of a source that edges lead to", graph.parent(0), -1);
    Checks.due("its distance", graph.distance(0), 0);
    Checks.due("its way", Probe.way(graph, 0), "0");
  }

  private static void staysFresh(States.State state, String name, Consumer<BlockGraph> calls) {
    BlockGraph graph = state.make();
    String before = answers(graph);
    calls.accept(graph);
    Checks.due("ways behind " + name, answers(graph), before);
  }

  private static String answers(BlockGraph graph) {
    return Probe.answer(() -> graph.distance(3)) + " " + Probe.answer(() -> graph.parent(3)) + " "
        + Probe.way(graph, 3);
  }

  /** "not by begin(), commit() or questions"; nor by abort() of nothing, arm() and room() */
  private static void freshWaysStayFresh() {
    Checks.due("ways of a committed graph", answers(States.IDLE.make()), "11 3 0 1 2 3");
    Checks.due("ways in a transaction", answers(States.OPEN.make()), "12 3 0 2 3");
    staysFresh(States.IDLE, "begin()", BlockGraph::begin);
    staysFresh(States.OPEN, "commit()", BlockGraph::commit);
    staysFresh(States.IDLE, "commit() of nothing", graph -> {
      graph.begin();
      graph.commit();
    });
    staysFresh(States.IDLE, "abort() of nothing", graph -> {
      graph.begin();
      graph.abort();
    });
    staysFresh(States.OPEN, "commit(), then abort() of nothing", graph -> {
      graph.commit();
      graph.begin();
      graph.abort();
    });
    staysFresh(States.OPEN, "questions", graph -> {
      graph.edge(0, 0);
      graph.atHand(0);
      graph.count(0);
      graph.distance(63);
      graph.parent(63);
      graph.way(63, 0);
    });
    staysFresh(States.OPEN, "arm() and room()", graph -> {
      graph.arm(0);
      graph.room(50);
    });
  }

  private static void getsStale(States.State state, String name, Consumer<BlockGraph> calls) {
    BlockGraph graph = state.make();
    Checks.due("distance(0) before " + name, graph.distance(0), 0);
    calls.accept(graph);
    String stale = "IllegalStateException IllegalStateException IllegalStateException";
    Checks.due("ways behind " + name, answers(graph), stale);
    Checks.due("the store behind " + name, graph.count(Probe.DOWN), 0);
  }

  /** Also where the edge leads nowhere near, and where all is as it was in the end. */
  private static void changesMakeThemStale() {
    getsStale(States.OPEN, "add", graph -> graph.add(50, 51, 1));
    getsStale(States.OPEN, "add of a loop", graph -> graph.add(0, 0, 1));
    getsStale(States.OPEN, "remove", graph -> graph.remove(4));
    getsStale(States.OPEN, "add and remove", graph -> graph.remove(graph.add(50, 51, 1)));
    getsStale(States.OPEN, "abort() of two", BlockGraph::abort);
    getsStale(States.IDLE, "abort() of one", graph -> {
      graph.begin();
      graph.add(0, 1, 1);
      graph.run(0);
      graph.abort();
    });
    getsStale(States.TWENTY, "abort() of what changes nothing", BlockGraph::abort);
    getsStale(States.IDLE, "format()", BlockGraph::format);
    getsStale(States.IDLE, "recover()", BlockGraph::recover);
    getsStale(States.OPEN, "recover() in a transaction", BlockGraph::recover);
  }

  private static void theyAreStaleBeforeTheFirstRun() {
    BlockGraph graph = Probe.formatted();
    Checks.due("distance before run()", Probe.answer(() -> graph.distance(0)),
        "IllegalStateException");
    graph.run(0);
    Checks.due("distance behind run()", graph.distance(0), 0);
  }

  private static void refusedChangesKeepThemFresh() {
    staysFresh(States.OPEN, "a refused add", graph -> Checks.thrownBy(() -> graph.add(0, 64, 1)));
    staysFresh(States.OPEN, "a refused remove", graph -> Checks.thrownBy(() -> graph.remove(1)));
    staysFresh(States.OPEN, "a refused begin()", graph -> Checks.thrownBy(graph::begin));
    staysFresh(States.OPEN, "a refused run()", graph -> Checks.thrownBy(() -> graph.run(64)));
    staysFresh(States.TWENTY, "a 21st add", graph -> Checks.thrownBy(() -> graph.add(0, 1, 1)));
    staysFresh(States.TWENTY, "a 21st remove", graph -> Checks.thrownBy(() -> graph.remove(0)));
    staysFresh(States.FULL, "a 201st add", graph -> Checks.thrownBy(() -> graph.add(0, 1, 1)));
    staysFresh(States.IDLE, "a refused abort()", graph -> Checks.thrownBy(graph::abort));
    staysFresh(States.IDLE, "a refused commit()", graph -> Checks.thrownBy(graph::commit));
  }

  private static void anotherRunMakesThemFresh() {
    for (States.State state : States.STALE) {
      BlockGraph graph = state.make();
      graph.run(7);
      Checks.due("distance(7) of run(7) " + state.name(), graph.distance(7), 0);
      Checks.due("distance(0) of run(7) " + state.name(), graph.distance(0), -1);
    }
  }
}

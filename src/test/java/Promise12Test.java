/** Promise 12: run. */
final class Promise12Test {
  private static final Class<?> STATE = IllegalStateException.class;
  private static final Class<?> ARGUMENT = IllegalArgumentException.class;

  private Promise12Test() {}

  static void run() {
    reachedVerticesAreCounted();
    pendingEdgesCount();
    itLooksAtAllBlocks();
    wrongInputsAreRefused();
    itNeedsAGraph();
    theLatestRunCounts();
    oneToAllAreReached();
    sourcesAre0To63();
  }

  /** A ring through all vertices, then without its last edge, the one from 63 to 0. */
  private static void oneToAllAreReached() {
    BlockGraph graph = Probe.withRing();
    Checks.due("run(0) on a ring of all", graph.run(0), 64);
    Checks.due("run(63) on a ring of all", graph.run(63), 64);
    graph.begin();
    graph.remove(63);
    Checks.due("run(0) on a chain of all", graph.run(0), 64);
    Checks.due("run(1) on a chain of all", graph.run(1), 63);
    Checks.due("run(63) at its end", graph.run(63), 1);
  }

  private static void sourcesAre0To63() {
    BlockGraph graph = States.OPEN.make();
    Checks.due("run(0)", graph.run(0), 5);
    Checks.due("run(63)", graph.run(63), 1);
    for (States.State state : new States.State[] {States.EMPTY, States.IDLE, States.OPEN}) {
      Checks.refused(state, "run(-1)", ARGUMENT, one -> one.run(-1));
      Checks.refused(state, "run(64)", ARGUMENT, one -> one.run(64));
    }
  }

  private static void reachedVerticesAreCounted() {
    BlockGraph graph = Probe.begun();
    Checks.due("run() without edges", graph.run(63), 1);
    graph.add(0, 1, 1);
    graph.add(1, 2, 1);
    graph.add(2, 0, 1);
    graph.add(3, 0, 1);
    graph.add(5, 5, 1);
    Checks.due("run(0) in a ring", graph.run(0), 3);
    Checks.due("run(3) to a ring", graph.run(3), 4);
    Checks.due("run(5) on a loop", graph.run(5), 1);
    graph.commit();
    Checks.due("run(3) behind commit()", graph.run(3), 4);
  }

  private static void pendingEdgesCount() {
    BlockGraph graph = Probe.formatted();
    Probe.commitEdges(graph, 1);
    graph.begin();
    graph.add(1, 2, 1);
    Checks.due("run() over a pending edge", graph.run(0), 3);
    graph.remove(0);
    Checks.due("run() without a removed edge", graph.run(0), 1);
    graph.abort();
    Checks.due("run() behind abort()", graph.run(0), 2);
  }

  private static void itLooksAtAllBlocks() {
    BlockGraph graph = Probe.formatted();
    graph.run(0);
    Checks.due("reads of a first run()", graph.count(Probe.READS), 50);
    Checks.due("at hand behind it", Probe.hand(graph), "49 48 47 46 45 44 43 42");
    graph.recover();
    graph.room(50);
    graph.run(0);
    graph.run(1);
    Checks.due("reads with room for all", graph.count(Probe.READS), 100);
    Probe.commitEdges(graph, 1);
    graph.run(0);
    Checks.due("at hand by rising numbers", Probe.hand(graph).substring(0, 11), "49 48 47 46");
    Checks.due("reads of what was written", graph.count(Probe.READS), 100);
  }

  private static void wrongInputsAreRefused() {
    BlockGraph graph = Probe.formatted();
    graph.run(1);
    Checks.refused(graph, "run(-1)", ARGUMENT, () -> graph.run(-1));
    Checks.refused(graph, "run(64)", ARGUMENT, () -> graph.run(64));
    Checks.due("distance behind refused ones", graph.distance(1), 0);
  }

  private static void itNeedsAGraph() {
    BlockGraph down = Probe.down();
    Checks.refused(down, "run when down", STATE, () -> down.run(0));
    Checks.refused(down, "a wrong run when down", STATE, () -> down.run(64));
    BlockGraph none = Probe.withoutGraph();
    Checks.refused(none, "run without a graph", STATE, () -> none.run(0));
  }

  private static void theLatestRunCounts() {
    BlockGraph graph = Probe.formatted();
    Probe.commitEdges(graph, 1);
    graph.run(0);
    graph.run(1);
    Checks.due("distance of the latest source", graph.distance(1), 0);
    Checks.due("distance of an earlier source", graph.distance(0), -1);
    Checks.due("parent of the latest source", graph.parent(1), -1);
  }
}

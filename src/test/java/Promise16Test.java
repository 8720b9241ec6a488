/** Promise 16: atHand. */
final class Promise16Test {
  private static final Class<?> INDEX = IndexOutOfBoundsException.class;

  private Promise16Test() {}

  static void run() {
    theLatestComesFirst();
    writtenBlocksAreTheLatest();
    wrongInputsAreRefused();
    noneToAllAreAtHand();
    itIsAnsweredWhenDown();
  }

  private static void theLatestComesFirst() {
    BlockGraph graph = Probe.formatted();
    Probe.commitEdges(graph, 20);
    graph.recover();
    graph.room(3);
    graph.edge(0, 0);
    graph.edge(4, 0);
    graph.edge(8, 0);
    Checks.due("at hand behind three looks", Probe.hand(graph), "2 1 0");
    graph.edge(1, 0);
    Checks.due("at hand behind an old one", Probe.hand(graph), "0 2 1");
    graph.edge(12, 0);
    Checks.due("at hand behind a fourth one", Probe.hand(graph), "3 0 2");
    graph.edge(13, 0);
    Checks.due("at hand behind the latest one", Probe.hand(graph), "3 0 2");
    Checks.due("reads", graph.count(Probe.READS), 4);
  }

  private static void writtenBlocksAreTheLatest() {
    BlockGraph graph = Probe.formatted();
    Probe.commitEdges(graph, 20);
    Checks.due("at hand behind a commit", Probe.hand(graph), "4 3 2 1 0 49 48 47");
    graph.begin();
    graph.remove(9);
    graph.remove(2);
    Checks.due("at hand behind operations", Probe.hand(graph), "4 3 2 1 0 49 48 47");
    graph.commit();
    Checks.due("at hand behind the next commit", Probe.hand(graph), "2 0 4 3 1 49 48 47");
    Checks.due("reads", graph.count(Probe.READS), 0);
  }

  private static void wrongInputsAreRefused() {
    BlockGraph graph = Probe.formatted();
    Checks.refused(graph, "atHand(8)", INDEX, () -> graph.atHand(8));
    Checks.refused(graph, "atHand(-1)", INDEX, () -> graph.atHand(-1));
    Checks.refused(graph, "atHand(50)", INDEX, () -> graph.atHand(50));
    Checks.refused(graph, "atHand of the greatest int", INDEX,
        () -> graph.atHand(Integer.MAX_VALUE));
    graph.recover();
    Checks.refused(graph, "atHand(0) behind recover()", INDEX, () -> graph.atHand(0));
  }

  private static void noneToAllAreAtHand() {
    for (int size : new int[] {0, 1, 2, 49, 50}) {
      States.State state = new States.State("with " + size + " at hand", () -> {
        BlockGraph graph = new BlockGraph();
        graph.room(50);
        graph.arm(1 + size);
        graph.format();
        return graph;
      });
      BlockGraph graph = state.make();
      Checks.due("blocks " + state.name(), graph.count(Probe.AT_HAND), size);
      if (size > 0) {
        Checks.due("the latest " + state.name(), graph.atHand(0), size - 1);
        Checks.due("the oldest " + state.name(), graph.atHand(size - 1), 0);
      }
      Checks.refused(state, "atHand(" + size + ")", INDEX, one -> one.atHand(size));
      Checks.refused(state, "atHand(-1)", INDEX, one -> one.atHand(-1));
    }
  }

  private static void itIsAnsweredWhenDown() {
    Checks.due("at hand when down", Probe.hand(Probe.down()), "0 49 48 47 46 45 44 43");
    BlockGraph graph = new BlockGraph();
    graph.arm(4);
    graph.format();
    Checks.due("at hand without a graph", Probe.hand(graph), "2 1 0");
  }
}

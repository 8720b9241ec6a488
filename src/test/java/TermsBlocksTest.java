/**
 * Terms, 2, the writes: what format(), commit() and recover() write, in which order and how much.
 * The order shows in where the power may fail, and in what is at hand then.
 */
final class TermsBlocksTest {
  private static final int FULL_LOG_WRITES = 4;

  private TermsBlocksTest() {}

  static void run() {
    formatWritesTheHeadFirst();
    formatWritesTheHomeBlocksByRisingNumbers();
    formatWritesTheMarkBehindAllHomeBlocks();
    formatWritesTheHeadAgainAtTheEnd();
    anEdgeIsInTheBlockOfAFourthOfItsNumber();
    aCommitOfNoOperationWritesNothing();
    aCommitWritesItsLogTwoMarksAndItsHomeBlocks();
    aCommitWritesTheHomeBlocksBehindItsMark();
    recoverWritesWhenTheLogIsFull();
    recoverWritesNothingElse();
    recoverWritesByTheMarkWithoutAGraph();
  }

  /** Over a full log, so that recover() tells behind it whether the mark was written. */
  private static BlockGraph formatWith(int writes) {
    BlockGraph graph = Probe.withFullLog();
    graph.arm(writes);
    graph.format();
    return graph;
  }

  private static void recovers(String name, BlockGraph graph, int answer, int writes) {
    int before = graph.count(Probe.WRITES);
    Checks.due(name + ", then recover()", graph.recover(), answer);
    Checks.due(name + ", its writes", graph.count(Probe.WRITES) - before, writes);
  }

  /** "format() writes the HEAD (it says that there is no graph)" */
  private static void formatWritesTheHeadFirst() {
    recovers("format() with no write", formatWith(0), Probe.UP, FULL_LOG_WRITES);
    recovers("format() with one write", formatWith(1), Probe.NO_GRAPH, FULL_LOG_WRITES);
    Checks.due("at hand behind one write", Probe.hand(formatWith(1)), "");
  }

  /** "50 HOME blocks" */
  private static void formatWritesTheHomeBlocksByRisingNumbers() {
    Checks.due("at hand behind two writes", Probe.hand(formatWith(2)), "0");
    Checks.due("at hand behind three writes", Probe.hand(formatWith(3)), "1 0");
    Checks.due("at hand behind 50 writes", Probe.hand(formatWith(50)), "48 47 46 45 44 43 42 41");
    Checks.due("at hand behind 51 writes", Probe.hand(formatWith(51)), "49 48 47 46 45 44 43 42");
    Checks.due("at hand behind 52 writes", Probe.hand(formatWith(52)), "49 48 47 46 45 44 43 42");
  }

  /** "the MARK (it says that the log is empty)" */
  private static void formatWritesTheMarkBehindAllHomeBlocks() {
    recovers("format() with 51 writes", formatWith(51), Probe.NO_GRAPH, FULL_LOG_WRITES);
    recovers("format() with 52 writes", formatWith(52), Probe.NO_GRAPH, 0);
  }

  /** "and the head again (it says that there is one): 53 in all." */
  private static void formatWritesTheHeadAgainAtTheEnd() {
    recovers("format() with 53 writes", formatWith(53), Probe.UP, 0);
    BlockGraph graph = new BlockGraph();
    graph.arm(54);
    Checks.due("format() armed with one more", graph.format(), true);
    Checks.due("the writes behind it", graph.count(Probe.WRITES), 53);
    Checks.due("the one that is left", graph.count(Probe.ARMED), 1);
  }

  /** "of four edges each: edge e is in block e / 4" */
  private static void anEdgeIsInTheBlockOfAFourthOfItsNumber() {
    BlockGraph graph = States.FULL.make();
    for (int edge : new int[] {0, 3, 4, 7, 8, 191, 192, 195, 196, 199}) {
      graph.edge(edge, 0);
      Checks.due("the block of edge " + edge, graph.atHand(0), edge / 4);
    }
    for (int edge : new int[] {3, 4, 195, 196, 199}) {
      BlockGraph one = States.FULL.make();
      one.remove(edge);
      one.commit();
      Checks.due("the block written for edge " + edge, one.atHand(0), edge / 4);
    }
  }

  /** "without operations nothing" */
  private static void aCommitOfNoOperationWritesNothing() {
    BlockGraph graph = Probe.begun();
    graph.arm(0);
    String hand = Probe.hand(graph);
    Checks.due("commit() of nothing", graph.commit(), true);
    Checks.due("counts behind it", Probe.counts(graph), "0 53 0 -1 8 0 0 0");
    Checks.due("at hand behind it", Probe.hand(graph), hand);
  }

  /** "A commit with k operations (k above 0) writes k LOG blocks and the mark ..." */
  private static void aCommitWritesItsLogTwoMarksAndItsHomeBlocks() {
    Checks.due("writes of 1 operation", writesOfAdds(1), 1 + 1 + 1 + 1);
    Checks.due("writes of 4 operations about a block", writesOfAdds(4), 4 + 1 + 1 + 1);
    Checks.due("writes of 5 operations about 2 blocks", writesOfAdds(5), 5 + 1 + 2 + 1);
    Checks.due("writes of 20 operations about 5 blocks", writesOfAdds(20), 20 + 1 + 5 + 1);
    BlockGraph oneEdge = States.TWENTY.make();
    Checks.due("writes of 20 operations about an edge", writesOfCommit(oneEdge), 20 + 1 + 1 + 1);
    BlockGraph apart = States.FULL.make();
    for (int edge = 199; edge > 199 - 20 * 4; edge -= 4) {
      apart.remove(edge);
    }
    Checks.due("writes of 20 operations about 20 blocks", writesOfCommit(apart), 20 + 1 + 20 + 1);
  }

  private static int writesOfAdds(int operations) {
    BlockGraph graph = Probe.begun();
    for (int k = 0; k < operations; k++) {
      graph.add(0, 1, 1);
    }
    return writesOfCommit(graph);
  }

  private static int writesOfCommit(BlockGraph graph) {
    int before = graph.count(Probe.WRITES);
    graph.commit();
    return graph.count(Probe.WRITES) - before;
  }

  /** "then, by rising numbers, the home blocks of all edges that an operation was about" */
  private static void aCommitWritesTheHomeBlocksBehindItsMark() {
    String[] hands = {"", "", "", "", "", "0", "1 0", "49 1 0"};
    for (int writes = 0; writes < hands.length; writes++) {
      BlockGraph graph = States.FULL.make();
      graph.recover();
      graph.begin();
      graph.remove(199);
      graph.remove(7);
      graph.remove(3);
      graph.arm(writes);
      Checks.due("commit() with " + writes + " of 8 writes", graph.commit(), false);
      Checks.due("at hand behind " + writes + " of them", Probe.hand(graph), hands[writes]);
    }
  }

  /** "recover() writes, when the mark says that the log is full, the home blocks and the mark" */
  private static void recoverWritesWhenTheLogIsFull() {
    BlockGraph graph = Probe.withFullLog();
    recovers("a full log", graph, Probe.UP, FULL_LOG_WRITES);
    Checks.due("at hand behind it", Probe.hand(graph), "4 3 1");
    BlockGraph last = States.OPEN.make();
    last.arm(5);
    Checks.due("commit() without its last write", last.commit(), false);
    recovers("a log that is at home but for the mark", last, Probe.UP, 3);
    Checks.due("transactions behind it", last.count(Probe.COMMITTED), 2);
  }

  /** "else nothing" */
  private static void recoverWritesNothingElse() {
    recovers("an empty log", States.IDLE.make(), Probe.UP, 0);
    recovers("an open transaction", States.OPEN.make(), Probe.UP, 0);
    BlockGraph lost = States.OPEN.make();
    lost.arm(2);
    lost.commit();
    recovers("a log without its mark", lost, Probe.UP, 0);
    BlockGraph twice = Probe.withFullLog();
    twice.recover();
    recovers("a log that recover() brought home", twice, Probe.UP, 0);
    recovers("a new object", new BlockGraph(), Probe.NO_GRAPH, 0);
  }

  /** The mark alone decides; the graph that a broken format() took away does not come again. */
  private static void recoverWritesByTheMarkWithoutAGraph() {
    for (int writes = 0; writes <= FULL_LOG_WRITES; writes++) {
      boolean whole = writes == FULL_LOG_WRITES;
      String name = "a full log without a graph, armed with " + writes;
      BlockGraph graph = formatWith(1);
      graph.arm(writes);
      recovers(name, graph, whole ? Probe.NO_GRAPH : Probe.POWER_FAILED, writes);
      Checks.due(name + ": down", graph.count(Probe.DOWN), 1);
      Checks.due(name + ": edges", graph.count(Probe.EDGES), -1);
      Checks.due(name + ": transactions", graph.count(Probe.COMMITTED), 0);
      Checks.due(name + ": armed", graph.count(Probe.ARMED), whole ? 0 : -1);
      graph.arm(BlockGraph.NONE);
      recovers(name + ", again", graph, Probe.NO_GRAPH, whole ? 0 : FULL_LOG_WRITES);
      Checks.due(name + ", then format()", graph.format(), true);
      Checks.due(name + ", then edges", graph.count(Probe.EDGES), 0);
    }
  }
}

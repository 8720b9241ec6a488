/**
 * Terms, 2, AT HAND: "home blocks, at most as many as room() says (8 at first): LOOKING at a block
 * makes it the latest at hand; if it was not there, that is a READ, and, when there are too many
 * then, the one that was looked at or written longest ago goes. A home block that is written is the
 * latest at hand, too (without a read). format() and recover() begin with none at hand."
 */
final class TermsHandTest {
  private TermsHandTest() {}

  static void run() {
    eightAreTheMostAtFirst();
    aLookAtWhatIsNotThereIsARead();
    theOldestGoesWhenThereAreTooMany();
    theOldestMayBeOneThatWasWritten();
    aWrittenBlockIsTheLatestWithoutARead();
    aRefusedCallLooksAtNothing();
    operationsLookAtNothing();
    formatBeginsWithNone();
    recoverBeginsWithNone();
  }

  /** Forty edges, thus the blocks 0 to 9; none of them is at hand. */
  private static BlockGraph withTenBlocks() {
    BlockGraph graph = Probe.formatted();
    Probe.commitEdges(graph, 40);
    graph.recover();
    return graph;
  }

  private static void lookAt(BlockGraph graph, int... blocks) {
    for (int block : blocks) {
      graph.edge(block * 4, 0);
    }
  }

  private static void eightAreTheMostAtFirst() {
    BlockGraph graph = withTenBlocks();
    lookAt(graph, 0, 1, 2, 3, 4, 5, 6);
    Checks.due("at hand behind seven", Probe.hand(graph), "6 5 4 3 2 1 0");
    lookAt(graph, 7);
    Checks.due("at hand behind eight", Probe.hand(graph), "7 6 5 4 3 2 1 0");
    lookAt(graph, 8);
    Checks.due("at hand behind nine", Probe.hand(graph), "8 7 6 5 4 3 2 1");
    lookAt(graph, 9);
    Checks.due("at hand behind ten", Probe.hand(graph), "9 8 7 6 5 4 3 2");
  }

  private static void aLookAtWhatIsNotThereIsARead() {
    BlockGraph graph = withTenBlocks();
    lookAt(graph, 0, 1, 2, 3, 4, 5, 6, 7);
    Checks.due("reads of eight", graph.count(Probe.READS), 8);
    lookAt(graph, 7, 0);
    Checks.due("reads of the latest and the oldest", graph.count(Probe.READS), 8);
    Checks.due("at hand behind them", Probe.hand(graph), "0 7 6 5 4 3 2 1");
    lookAt(graph, 8);
    Checks.due("reads of a ninth", graph.count(Probe.READS), 9);
    lookAt(graph, 2);
    Checks.due("reads of the one that is the oldest then", graph.count(Probe.READS), 9);
    lookAt(graph, 1);
    Checks.due("reads of the one that went", graph.count(Probe.READS), 10);
    Checks.due("at hand behind all", Probe.hand(graph), "1 2 8 0 7 6 5 4");
  }

  private static void theOldestGoesWhenThereAreTooMany() {
    BlockGraph graph = withTenBlocks();
    graph.room(2);
    lookAt(graph, 0, 1, 0, 2);
    Checks.due("the one looked at longest ago went", Probe.hand(graph), "2 0");
    lookAt(graph, 0, 3);
    Checks.due("and once more", Probe.hand(graph), "3 0");
    graph.room(1);
    lookAt(graph, 3);
    Checks.due("reads, the one at hand being looked at", graph.count(Probe.READS), 4);
    lookAt(graph, 4);
    Checks.due("at hand with room for one", Probe.hand(graph), "4");
  }

  private static void theOldestMayBeOneThatWasWritten() {
    BlockGraph graph = withTenBlocks();
    graph.room(3);
    lookAt(graph, 0);
    graph.begin();
    graph.remove(4);
    graph.commit();
    lookAt(graph, 2, 0);
    Checks.due("at hand with a written one", Probe.hand(graph), "0 2 1");
    lookAt(graph, 3);
    Checks.due("at hand without it", Probe.hand(graph), "3 0 2");
  }

  private static void aWrittenBlockIsTheLatestWithoutARead() {
    BlockGraph graph = withTenBlocks();
    graph.room(3);
    lookAt(graph, 0, 1, 2);
    graph.begin();
    graph.remove(0);
    graph.commit();
    Checks.due("at hand behind a write of the oldest", Probe.hand(graph), "0 2 1");
    graph.begin();
    graph.remove(39);
    graph.commit();
    Checks.due("at hand behind a write of a fourth", Probe.hand(graph), "9 0 2");
    graph.begin();
    for (int edge : new int[] {36, 32, 28, 24}) {
      graph.remove(edge);
    }
    graph.commit();
    Checks.due("at hand behind four writes", Probe.hand(graph), "9 8 7");
    Checks.due("reads of all writes", graph.count(Probe.READS), 3);
    graph.edge(37, 0);
    Checks.due("reads of a written one", graph.count(Probe.READS), 3);
  }

  private static void aRefusedCallLooksAtNothing() {
    BlockGraph graph = withTenBlocks();
    String thrown = Probe.answer(() -> graph.edge(0, 3)) + Probe.answer(() -> graph.edge(40, 0))
        + Probe.answer(() -> graph.run(64));
    Checks.due("three refused looks", thrown,
        "IllegalArgumentExceptionNoSuchElementExceptionIllegalArgumentException");
    Checks.due("at hand behind them", graph.count(Probe.AT_HAND), 0);
    Checks.due("reads behind them", graph.count(Probe.READS), 0);
  }

  private static void operationsLookAtNothing() {
    BlockGraph graph = withTenBlocks();
    graph.begin();
    graph.add(0, 1, 1);
    graph.remove(0);
    graph.abort();
    Checks.due("at hand behind operations", graph.count(Probe.AT_HAND), 0);
    graph.begin();
    graph.remove(0);
    graph.arm(2);
    graph.commit();
    Checks.due("at hand behind a log and its mark", graph.count(Probe.AT_HAND), 0);
    Checks.due("reads behind all", graph.count(Probe.READS), 0);
  }

  private static void formatBeginsWithNone() {
    String[] hands = {"", "", "0", "1 0"};
    for (int writes = 0; writes < hands.length; writes++) {
      BlockGraph graph = States.IDLE.make();
      Checks.due("at hand before format()", graph.count(Probe.AT_HAND), 5);
      graph.arm(writes);
      graph.format();
      Checks.due("at hand behind format() with " + writes, Probe.hand(graph), hands[writes]);
    }
  }

  private static void recoverBeginsWithNone() {
    BlockGraph up = States.IDLE.make();
    up.recover();
    Checks.due("at hand behind recover() when up", Probe.hand(up), "");
    BlockGraph none = Probe.formatted();
    none.arm(40);
    none.format();
    Checks.due("at hand without a graph", none.count(Probe.AT_HAND), 8);
    none.recover();
    Checks.due("at hand behind recover() without a graph", Probe.hand(none), "");
    BlockGraph failed = Probe.withFullLog();
    Checks.due("at hand before recover()", failed.count(Probe.AT_HAND), 8);
    failed.arm(0);
    failed.recover();
    Checks.due("at hand behind recover() without a write", Probe.hand(failed), "");
    failed.recover();
    Checks.due("at hand behind recover() with all", Probe.hand(failed), "4 3 1");
  }
}

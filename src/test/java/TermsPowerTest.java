import java.util.ArrayList;
import java.util.List;

/**
 * Terms, 2, THE POWER: "fails when it was armed and as many writes more as it was armed with have
 * been: the next write (and all behind it) is not done, and the store is DOWN. (It is not armed any
 * more then.)" And what is committed, or there at all, when it failed.
 */
final class TermsPowerTest {
  private TermsPowerTest() {}

  static void run() {
    asManyWritesAsItIsArmedWithAreDone();
    theNextWriteIsNotDone();
    itIsNotArmedAnyMoreThen();
    callsWithoutAWriteDoNotFail();
    aTransactionIsCommittedByItsMark(1);
    aTransactionIsCommittedByItsMark(2);
    aTransactionIsCommittedByItsMark(20);
    withoutItsMarkItHasNeverBeen();
    aShorterLogHidesALongerOne();
    thereIsNoGraphFromTheFirstWriteOfFormatOn();
    aFormatWithoutItsFirstWriteChangesNoBlock();
    thereIsAnEmptyGraphFromTheLastOneOn();
  }

  /** A graph whose commit() of one operation takes four writes. */
  private static BlockGraph withOneOperation(int armed) {
    BlockGraph graph = Probe.begun();
    graph.add(0, 1, 1);
    graph.arm(armed);
    return graph;
  }

  private static void asManyWritesAsItIsArmedWithAreDone() {
    BlockGraph graph = withOneOperation(4);
    Checks.due("commit() of 4 writes, armed with 4", graph.commit(), true);
    Checks.due("counts behind it", Probe.counts(graph), "1 57 0 -1 8 0 1 0");
    graph.begin();
    graph.remove(0);
    Checks.due("the next commit()", graph.commit(), false);
    Checks.due("counts behind the next", Probe.counts(graph), "-1 57 0 -1 8 -1 1 1");
  }

  private static void theNextWriteIsNotDone() {
    BlockGraph graph = withOneOperation(3);
    Checks.due("commit() of 4 writes, armed with 3", graph.commit(), false);
    Checks.due("counts behind it", Probe.counts(graph), "-1 56 0 -1 8 -1 0 1");
    BlockGraph none = withOneOperation(0);
    Checks.due("commit() of 4 writes, armed with 0", none.commit(), false);
    Checks.due("counts behind that", Probe.counts(none), "-1 53 0 -1 8 -1 0 1");
  }

  private static void itIsNotArmedAnyMoreThen() {
    BlockGraph graph = withOneOperation(2);
    graph.commit();
    Checks.due("armed when it failed in commit()", graph.count(Probe.ARMED), -1);
    graph.arm(1);
    Checks.due("recover() armed with 1", graph.recover(), Probe.POWER_FAILED);
    Checks.due("armed when it failed in recover()", graph.count(Probe.ARMED), -1);
    Checks.due("recover() when it is not armed", graph.recover(), Probe.UP);
    graph.arm(7);
    Checks.due("format() armed with 7", graph.format(), false);
    Checks.due("armed when it failed in format()", graph.count(Probe.ARMED), -1);
    Checks.due("format() when it is not armed", graph.format(), true);
  }

  private static void callsWithoutAWriteDoNotFail() {
    BlockGraph graph = States.OPEN.make();
    graph.arm(0);
    graph.add(0, 1, 1);
    graph.remove(0);
    graph.edge(4, 0);
    graph.run(0);
    graph.room(1);
    Checks.due("abort() armed with 0", graph.abort(), 4);
    graph.begin();
    Checks.due("commit() of nothing, armed with 0", graph.commit(), true);
    Checks.due("recover() of nothing, armed with 0", graph.recover(), Probe.UP);
    Checks.due("armed behind all", graph.count(Probe.ARMED), 0);
    Checks.due("up behind all", graph.count(Probe.DOWN), 0);
  }

  /** "COMMITTED is a transaction when its mark was written first" */
  private static void aTransactionIsCommittedByItsMark(int operations) {
    for (int writes = operations - 1; writes <= operations + 2; writes++) {
      boolean committed = writes > operations;
      String name = "a commit of " + operations + ", armed with " + writes;
      BlockGraph graph = Probe.begun();
      for (int k = 0; k < operations; k++) {
        graph.add(k, k + 1, k + 2);
      }
      graph.arm(writes);
      Checks.due(name, graph.commit(), false);
      Checks.due(name + ": known", graph.count(Probe.COMMITTED), 0);
      Checks.due(name + ", then recover()", graph.recover(), Probe.UP);
      Checks.due(name + ", then edges", graph.count(Probe.EDGES), committed ? operations : 0);
      Checks.due(name + ", then known", graph.count(Probe.COMMITTED), committed ? 1 : 0);
      int last = operations - 1;
      String gone = "NoSuchElementException NoSuchElementException NoSuchElementException";
      Checks.due(name + ", then its last edge", Probe.edge(graph, last),
          committed ? last + " " + operations + " " + (operations + 1) : gone);
    }
  }

  /** "without that all of it is as if it had never been": its twin had no transaction at all. */
  private static void withoutItsMarkItHasNeverBeen() {
    BlockGraph graph = States.IDLE.make();
    graph.begin();
    graph.remove(0);
    graph.add(8, 9, 10);
    graph.remove(3);
    graph.arm(0);
    graph.commit();
    graph.recover();
    BlockGraph twin = States.IDLE.make();
    twin.recover();
    Checks.due("all behind a lost transaction", Probe.everything(graph), Probe.everything(twin));
  }

  /** Log blocks of a lost transaction stay where they are, but no mark speaks of them. */
  private static void aShorterLogHidesALongerOne() {
    BlockGraph graph = States.IDLE.make();
    graph.begin();
    graph.remove(0);
    graph.remove(1);
    graph.remove(2);
    graph.arm(3);
    graph.commit();
    graph.recover();
    graph.begin();
    graph.remove(4);
    graph.arm(2);
    Checks.due("commit() of one behind a lost one of three", graph.commit(), false);
    Checks.due("recover() behind both", graph.recover(), Probe.UP);
    Checks.due("edges behind all", graph.count(Probe.EDGES), 4);
    Checks.due("edge 0 behind all", Probe.edge(graph, 0), "0 1 5");
    Checks.due("edge 2 behind all", Probe.edge(graph, 2), "0 2 11");
  }

  private static BlockGraph formatWith(int writes) {
    BlockGraph graph = States.IDLE.make();
    graph.arm(writes);
    graph.format();
    graph.arm(BlockGraph.NONE);
    return graph;
  }

  /** "From the first write of format() on there is NO GRAPH" */
  private static void thereIsNoGraphFromTheFirstWriteOfFormatOn() {
    BlockGraph before = formatWith(0);
    Checks.due("known behind format() without a write", before.count(Probe.COMMITTED), 1);
    Checks.due("recover() behind it", before.recover(), Probe.UP);
    Checks.due("edges behind both", before.count(Probe.EDGES), 5);
    Checks.due("edge 4 behind both", Probe.edge(before, 4), "3 3 1");
    for (int writes : new int[] {1, 2, 51, 52}) {
      BlockGraph graph = formatWith(writes);
      String name = "format() with " + writes + " writes";
      Checks.due(name + ": known", graph.count(Probe.COMMITTED), 0);
      Checks.due(name + ", then recover()", graph.recover(), Probe.NO_GRAPH);
      Checks.due(name + ", then edges", graph.count(Probe.EDGES), -1);
    }
  }

  /**
   * "the next write (and all behind it) is not done": the graph, or that there is none, stays, and
   * with it what is known of its transactions. Its twin was not formatted at all.
   */
  private static void aFormatWithoutItsFirstWriteChangesNoBlock() {
    List<States.State> states = new ArrayList<>(States.DOWN);
    states.addAll(List.of(States.EMPTY, States.IDLE, States.OPEN, States.TWENTY, States.FULL));
    for (States.State state : states) {
      String name = "format() without a write " + state.name();
      BlockGraph graph = state.make();
      int writes = graph.count(Probe.WRITES);
      int reads = graph.count(Probe.READS);
      int known = graph.count(Probe.COMMITTED);
      graph.arm(0);
      Checks.due(name, graph.format(), false);
      Checks.due(name + ": counts", Probe.counts(graph),
          "-1 " + writes + " " + reads + " -1 0 -1 " + known + " 1");
      BlockGraph twin = state.make();
      twin.arm(BlockGraph.NONE);
      Checks.due(name + ", then recover()", graph.recover(), twin.recover());
      Checks.due(name + ", then all", Probe.everything(graph), Probe.everything(twin));
    }
  }

  /** "from the last one on an empty one" */
  private static void thereIsAnEmptyGraphFromTheLastOneOn() {
    BlockGraph graph = formatWith(53);
    Checks.due("edges behind format() with 53 writes", graph.count(Probe.EDGES), 0);
    Checks.due("recover() behind it", graph.recover(), Probe.UP);
    Checks.due("edges behind both", graph.count(Probe.EDGES), 0);
    Checks.due("known behind both", graph.count(Probe.COMMITTED), 0);
  }
}

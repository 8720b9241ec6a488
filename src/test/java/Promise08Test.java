/** Promise 8: arm. */
final class Promise08Test {
  private Promise08Test() {}

  static void run() {
    writesAreCountedDown();
    theLatestOneCounts();
    wrongInputsAreRefused();
    noneIsNotBelowMinusOne();
    zeroFailsAtTheNextWrite();
    itIsTakenWhenDown();
    questionsWriteNothing();
  }

  private static void writesAreCountedDown() {
    BlockGraph graph = new BlockGraph();
    graph.arm(60);
    Checks.due("armed at first", graph.count(Probe.ARMED), 60);
    graph.format();
    Checks.due("armed behind format()", graph.count(Probe.ARMED), 7);
    graph.begin();
    graph.add(0, 1, 1);
    graph.commit();
    Checks.due("armed behind commit()", graph.count(Probe.ARMED), 3);
    graph.begin();
    graph.add(0, 1, 1);
    Checks.due("the commit() in which the power fails", graph.commit(), false);
    Checks.due("armed behind it", graph.count(Probe.ARMED), -1);
    Checks.due("recover() when it is not armed any more", graph.recover(), Probe.UP);
  }

  private static void theLatestOneCounts() {
    BlockGraph graph = new BlockGraph();
    graph.arm(3);
    graph.arm(53);
    Checks.due("format() armed anew", graph.format(), true);
    Checks.due("armed with no write yet", graph.count(Probe.ARMED), 0);
    Checks.due("not down yet", graph.count(Probe.DOWN), 0);
    graph.arm(BlockGraph.NONE);
    Checks.due("armed behind arm(NONE)", graph.count(Probe.ARMED), -1);
    Checks.due("format() behind arm(NONE)", graph.format(), true);
    graph.arm(0);
    Checks.due("format() behind arm(0)", graph.format(), false);
    Checks.due("writes behind all", graph.count(Probe.WRITES), 106);
  }

  private static void wrongInputsAreRefused() {
    BlockGraph graph = Probe.formatted();
    graph.arm(5);
    Class<?> argument = IllegalArgumentException.class;
    Checks.refused(graph, "arm(-2)", argument, () -> graph.arm(-2));
    Checks.refused(graph, "arm of the least int", argument, () -> graph.arm(Integer.MIN_VALUE));
    graph.arm(Integer.MAX_VALUE);
    Checks.due("armed with the greatest int", graph.count(Probe.ARMED), Integer.MAX_VALUE);
    graph.format();
    Checks.due("armed behind format()", graph.count(Probe.ARMED), Integer.MAX_VALUE - 53);
  }

  private static void noneIsNotBelowMinusOne() {
    Checks.refused(States.OPEN, "arm(-2)", IllegalArgumentException.class, graph -> graph.arm(-2));
    BlockGraph graph = States.OPEN.make();
    graph.arm(-1);
    Checks.due("armed behind arm(-1)", graph.count(Probe.ARMED), -1);
    Checks.due("commit() behind arm(-1)", graph.commit(), true);
    Checks.due("armed behind that", graph.count(Probe.ARMED), -1);
  }

  private static void zeroFailsAtTheNextWrite() {
    BlockGraph zero = States.OPEN.make();
    int before = zero.count(Probe.WRITES);
    zero.arm(0);
    Checks.due("armed behind arm(0)", zero.count(Probe.ARMED), 0);
    Checks.due("up behind arm(0)", zero.count(Probe.DOWN), 0);
    Checks.due("commit() behind arm(0)", zero.commit(), false);
    Checks.due("its writes", zero.count(Probe.WRITES) - before, 0);
    BlockGraph one = States.OPEN.make();
    one.arm(1);
    Checks.due("commit() behind arm(1)", one.commit(), false);
    Checks.due("its writes", one.count(Probe.WRITES) - before, 1);
  }

  private static void itIsTakenWhenDown() {
    BlockGraph down = Probe.down();
    down.arm(4);
    Checks.due("armed when down", down.count(Probe.ARMED), 4);
    Checks.refused(down, "arm(-2) when down", IllegalArgumentException.class, () -> down.arm(-2));
    Checks.due("recover() without a write", down.recover(), Probe.UP);
    Checks.due("armed behind it", down.count(Probe.ARMED), 4);
  }

  private static void questionsWriteNothing() {
    BlockGraph graph = Probe.begun();
    graph.arm(0);
    graph.add(0, 1, 1);
    graph.run(0);
    graph.edge(0, 0);
    graph.abort();
    graph.recover();
    Checks.due("armed behind calls that write nothing", graph.count(Probe.ARMED), 0);
    Checks.due("down behind them", graph.count(Probe.DOWN), 0);
  }
}

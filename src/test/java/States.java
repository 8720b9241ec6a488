import java.util.List;
import java.util.function.Supplier;

/** States that an object can be in. Each is made anew for every use: an object has 512 calls. */
final class States {
  /** A state, with a name that goes behind the name of a call. */
  record State(String name, Supplier<BlockGraph> made) {
    BlockGraph make() {
      return made.get();
    }
  }

  static final State NEW = new State("of a new object", BlockGraph::new);
  static final State EMPTY = new State("of an empty graph", Probe::formatted);
  static final State IDLE = new State("without a transaction", States::idle);
  static final State OPEN = new State("in a transaction", States::open);
  static final State NINETEEN = new State("with 19 operations", () -> withOperations(19));
  static final State TWENTY = new State("with 20 operations", () -> withOperations(20));
  static final State FULL = new State("with 200 edges", States::full);
  static final State FULL_AND_TWENTY = new State("with 200 edges and 20 operations",
      States::fullByOperations);

  /** Every way to be DOWN: there is no graph, or the power failed in a call that writes. */
  static final List<State> DOWN = List.of(
      NEW,
      new State("behind recover() of a new object", () -> recovered(new BlockGraph())),
      new State("behind a first format() without a write", () -> formatWith(0, new BlockGraph())),
      new State("behind a format() without a write", () -> formatWith(0, open())),
      new State("behind a format() with one write", () -> formatWith(1, open())),
      new State("behind a format() without its last write", () -> formatWith(52, open())),
      new State("behind it and recover()", () -> recovered(formatWith(52, open()))),
      new State("behind a commit() without a write", () -> commitWith(0)),
      new State("behind a commit() without its mark", () -> commitWith(2)),
      new State("behind a commit() with its mark", () -> commitWith(3)),
      new State("behind a commit() without its last write", () -> commitWith(5)),
      new State("behind a recover() without a write", () -> recoverWith(0)),
      new State("behind a recover() without its last write", () -> recoverWith(2)));

  /** Every way to be STALE while the store is up. */
  static final List<State> STALE = List.of(
      EMPTY,
      new State("behind add", () -> {
        BlockGraph graph = open();
        graph.add(40, 40, 1);
        return graph;
      }),
      new State("behind remove", () -> {
        BlockGraph graph = open();
        graph.remove(4);
        return graph;
      }),
      new State("behind abort() with operations", () -> {
        BlockGraph graph = open();
        graph.abort();
        return graph;
      }),
      new State("behind format() of what was measured", () -> {
        BlockGraph graph = idle();
        graph.format();
        return graph;
      }),
      new State("behind recover() of what was measured", () -> recovered(idle())));

  private States() {}

  /** Edges 0 to 4 are committed; the ways are fresh, the room is not the first one. */
  private static BlockGraph idle() {
    BlockGraph graph = Probe.begun();
    graph.room(5);
    graph.add(0, 1, 5);
    graph.add(1, 2, 5);
    graph.add(0, 2, 11);
    graph.add(2, 3, 1);
    graph.add(3, 3, 1);
    graph.commit();
    graph.run(0);
    return graph;
  }

  /** Its two operations are about the blocks 1 and 0; the ways are fresh, the power is armed. */
  private static BlockGraph open() {
    BlockGraph graph = idle();
    graph.begin();
    graph.add(3, 63, 7);
    graph.remove(1);
    graph.run(0);
    graph.arm(40);
    return graph;
  }

  private static BlockGraph withOperations(int operations) {
    BlockGraph graph = idle();
    graph.begin();
    for (int k = 0; k < operations; k++) {
      if (k % 2 == 0) {
        graph.add(3, 63, 7);
      } else {
        graph.remove(5);
      }
    }
    graph.run(0);
    return graph;
  }

  private static BlockGraph full() {
    BlockGraph graph = Probe.formatted();
    Probe.commitEdges(graph, 200);
    graph.begin();
    graph.run(0);
    return graph;
  }

  private static BlockGraph fullByOperations() {
    BlockGraph graph = Probe.formatted();
    Probe.commitEdges(graph, 180);
    graph.begin();
    for (int k = 0; k < 20; k++) {
      graph.add(1, 2, 3);
    }
    graph.run(0);
    return graph;
  }

  private static BlockGraph recovered(BlockGraph graph) {
    graph.recover();
    return graph;
  }

  private static BlockGraph formatWith(int writes, BlockGraph graph) {
    graph.arm(writes);
    graph.format();
    return graph;
  }

  private static BlockGraph commitWith(int writes) {
    BlockGraph graph = open();
    graph.arm(writes);
    graph.commit();
    return graph;
  }

  private static BlockGraph recoverWith(int writes) {
    BlockGraph graph = commitWith(3);
    graph.arm(writes);
    graph.recover();
    return graph;
  }
}

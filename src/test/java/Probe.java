import java.util.function.IntSupplier;

/** Questions that change nothing, and short runs of calls that many tests begin with. */
final class Probe {
  static final int UP = 0;
  static final int POWER_FAILED = 1;
  static final int NO_GRAPH = 2;

  static final int EDGES = 0;
  static final int WRITES = 1;
  static final int READS = 2;
  static final int OPERATIONS = 3;
  static final int AT_HAND = 4;
  static final int ARMED = 5;
  static final int COMMITTED = 6;
  static final int DOWN = 7;

  private Probe() {}

  static BlockGraph formatted() {
    BlockGraph graph = new BlockGraph();
    graph.format();
    return graph;
  }

  /** A formatted graph with an open transaction. */
  static BlockGraph begun() {
    BlockGraph graph = formatted();
    graph.begin();
    return graph;
  }

  /** A graph that is down since a write of format() failed; its blocks hold none. */
  static BlockGraph withoutGraph() {
    BlockGraph graph = formatted();
    graph.arm(1);
    graph.format();
    return graph;
  }

  /** A graph with edge 0 that is down since the first log block of a commit was not written. */
  static BlockGraph down() {
    BlockGraph graph = begun();
    graph.add(0, 1, 1);
    graph.commit();
    graph.begin();
    graph.add(1, 2, 1);
    graph.arm(0);
    graph.commit();
    return graph;
  }

  /** Its log is full, about the blocks 1, 3 and 4; no home block of it was written. */
  static BlockGraph withFullLog() {
    BlockGraph graph = formatted();
    commitEdges(graph, 17);
    graph.begin();
    graph.remove(16);
    graph.remove(15);
    graph.remove(5);
    graph.add(20, 21, 22);
    graph.arm(5);
    graph.commit();
    return graph;
  }

  /** Edge k leads from vertex k to the next one, and edge 63 to vertex 0. */
  static BlockGraph withRing() {
    BlockGraph graph = formatted();
    for (int vertex = 0; vertex < 64; vertex++) {
      if (vertex % 16 == 0) {
        graph.begin();
      }
      graph.add(vertex, (vertex + 1) % 64, 1 + vertex);
      if (vertex % 16 == 15) {
        graph.commit();
      }
    }
    return graph;
  }

  /** Commits so many edges from vertex 0 to vertex 1, of weight 1, twenty at a time. */
  static void commitEdges(BlockGraph graph, int edges) {
    for (int done = 0; done < edges; done += 20) {
      graph.begin();
      for (int k = done; k < edges && k < done + 20; k++) {
        graph.add(0, 1, 1);
      }
      graph.commit();
    }
  }

  static String counts(BlockGraph graph) {
    StringBuilder text = new StringBuilder();
    for (int what = 0; what <= 7; what++) {
      text.append(what == 0 ? "" : " ").append(graph.count(what));
    }
    return text.toString();
  }

  static String hand(BlockGraph graph) {
    StringBuilder text = new StringBuilder();
    int size = graph.count(AT_HAND);
    for (int k = 0; k < size; k++) {
      text.append(k == 0 ? "" : " ").append(graph.atHand(k));
    }
    return text.toString();
  }

  /** All that can be asked for without a change, but for single vertices: those are many calls. */
  static String state(BlockGraph graph) {
    return counts(graph) + " | " + hand(graph) + " | " + answer(() -> graph.distance(1)) + " "
        + answer(() -> graph.parent(1));
  }

  /**
   * All that the object tells, and what becomes of it later. Two objects that differ in anything
   * that can be asked for, now or behind run(), commit() and recover(), differ here. The object is
   * used up by it, for it takes more than half of the 512 calls that an object is good for.
   */
  static String everything(BlockGraph graph) {
    StringBuilder text = new StringBuilder(state(graph));
    for (int k = 0; k < 64; k++) {
      int vertex = k;
      text.append(" ").append(answer(() -> graph.distance(vertex)));
      text.append("/").append(answer(() -> graph.parent(vertex)));
    }
    text.append(" | way ").append(way(graph, 63)).append(" | ").append(someEdges(graph));
    text.append(" | run ").append(answer(() -> graph.run(0))).append(" ").append(state(graph));
    text.append(" | commit ").append(answer(() -> graph.commit() ? 1 : 0));
    text.append(" ").append(counts(graph)).append(" | recover ").append(graph.recover());
    return text.append(" ").append(counts(graph)).append(" ").append(someEdges(graph)).toString();
  }

  /** The parts of some twelve edges, the first and the last number among them. */
  private static String someEdges(BlockGraph graph) {
    StringBuilder text = new StringBuilder();
    for (int edge : new int[] {0, 1, 2, 3, 4, 5, 6, 77, 180, 198, 199}) {
      text.append(edge == 0 ? "" : ", ").append(edge(graph, edge));
    }
    return text.toString();
  }

  /** The vertices of a way, one behind the other; what is thrown if there is none. */
  static String way(BlockGraph graph, int vertex) {
    String text = answer(() -> graph.way(vertex, 0));
    for (int k = 1; k < 64 && !text.endsWith("Exception"); k++) {
      int place = k;
      String next = answer(() -> graph.way(vertex, place));
      if (next.equals("IndexOutOfBoundsException")) {
        break;
      }
      text += " " + next;
    }
    return text;
  }

  /** From, to and weight of an edge. */
  static String edge(BlockGraph graph, int edge) {
    return answer(() -> graph.edge(edge, 0)) + " " + answer(() -> graph.edge(edge, 1)) + " "
        + answer(() -> graph.edge(edge, 2));
  }

  /** The answer of a call, or the name of what it throws. */
  static String answer(IntSupplier call) {
    try {
      return Integer.toString(call.getAsInt());
    } catch (RuntimeException e) {
      return Checks.nameOf(e);
    }
  }
}

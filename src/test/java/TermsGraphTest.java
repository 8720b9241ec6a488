import java.util.NoSuchElementException;

/**
 * Terms, 1: "There are VERTICES 0 .. 63 and EDGES with numbers 0 .. 199, each FROM a vertex TO one
 * (it may be the same), with a WEIGHT 1 .. 32767. COMMITTED are those that all committed
 * transactions made; PENDING are the operations of the open transaction: VISIBLE is what these make
 * of the committed ones."
 */
final class TermsGraphTest {
  private static final Class<?> ARGUMENT = IllegalArgumentException.class;
  private static final Class<?> NO_ELEMENT = NoSuchElementException.class;

  private TermsGraphTest() {}

  static void run() {
    verticesAre0To63();
    vertex0IsAsGoodAsAnother();
    noOtherVertexIsTaken(-1);
    noOtherVertexIsTaken(64);
    edgesHaveTheNumbers0To199();
    noOtherEdgeIsTaken();
    weightsAre1To32767();
    anEdgeMayLeadToWhereItIsFrom();
    visibleIsWhatThePendingMakeOfTheCommitted();
  }

  private static void verticesAre0To63() {
    BlockGraph graph = Probe.begun();
    Checks.due("add(0, 63, 1)", graph.add(0, 63, 1), 0);
    Checks.due("add(63, 0, 2)", graph.add(63, 0, 2), 1);
    Checks.due("edge from 0 to 63", Probe.edge(graph, 0), "0 63 1");
    Checks.due("edge from 63 to 0", Probe.edge(graph, 1), "63 0 2");
    Checks.due("run(0)", graph.run(0), 2);
    Checks.due("distance(63) from 0", graph.distance(63), 1);
    Checks.due("parent(63) from 0", graph.parent(63), 0);
    Checks.due("way to 63 from 0", Probe.way(graph, 63), "0 63");
    Checks.due("run(63)", graph.run(63), 2);
    Checks.due("distance(0) from 63", graph.distance(0), 2);
    Checks.due("parent(0) from 63", graph.parent(0), 1);
    Checks.due("way to 0 from 63", Probe.way(graph, 0), "63 0");
  }

  /** Where 0 could be taken for nothing. */
  private static void vertex0IsAsGoodAsAnother() {
    BlockGraph graph = Probe.begun();
    graph.add(0, 0, 1);
    graph.add(7, 0, 1);
    graph.add(0, 7, 1);
    Checks.due("edges at vertex 0", graph.count(Probe.EDGES), 3);
    graph.commit();
    graph.begin();
    for (int edge = 0; edge < 3; edge++) {
      graph.remove(edge);
      Checks.due("edges without edge " + edge, graph.count(Probe.EDGES), 2 - edge);
    }
    graph.commit();
    Checks.due("edges when all are removed", graph.count(Probe.EDGES), 0);
  }

  private static void noOtherVertexIsTaken(int vertex) {
    String name = "(" + vertex + ")";
    Checks.refused(States.OPEN, "add from" + name, ARGUMENT, graph -> graph.add(vertex, 0, 1));
    Checks.refused(States.OPEN, "add to" + name, ARGUMENT, graph -> graph.add(0, vertex, 1));
    Checks.refused(States.OPEN, "run" + name, ARGUMENT, graph -> graph.run(vertex));
    Checks.refused(States.OPEN, "distance" + name, ARGUMENT, graph -> graph.distance(vertex));
    Checks.refused(States.OPEN, "parent" + name, ARGUMENT, graph -> graph.parent(vertex));
    Checks.refused(States.OPEN, "way" + name, ARGUMENT, graph -> graph.way(vertex, 0));
  }

  private static void edgesHaveTheNumbers0To199() {
    BlockGraph graph = States.FULL.make();
    Checks.due("edge 0 of 200", Probe.edge(graph, 0), "0 1 1");
    Checks.due("edge 199 of 200", Probe.edge(graph, 199), "0 1 1");
    graph.remove(0);
    graph.remove(199);
    Checks.due("edge 0, removed", Probe.answer(() -> graph.edge(0, 0)), "NoSuchElementException");
    Checks.due("edge 199, removed", Probe.answer(() -> graph.edge(199, 0)),
        "NoSuchElementException");
    Checks.due("the number 0 again", graph.add(2, 3, 4), 0);
    Checks.due("the number 199 again", graph.add(5, 6, 7), 199);
    graph.commit();
    graph.recover();
    Checks.due("edge 0 behind recover()", Probe.edge(graph, 0), "2 3 4");
    Checks.due("edge 199 behind recover()", Probe.edge(graph, 199), "5 6 7");
  }

  private static void noOtherEdgeIsTaken() {
    for (int edge : new int[] {-1, 200}) {
      Checks.refused(States.FULL, "edge(" + edge + ", 0)", NO_ELEMENT,
          graph -> graph.edge(edge, 0));
      Checks.refused(States.FULL, "remove(" + edge + ")", NO_ELEMENT,
          graph -> graph.remove(edge));
    }
  }

  private static void weightsAre1To32767() {
    BlockGraph graph = Probe.begun();
    Checks.due("add of weight 1", graph.add(0, 1, 1), 0);
    Checks.due("add of weight 32767", graph.add(1, 2, 32767), 1);
    graph.commit();
    graph.recover();
    Checks.due("weight 1 behind recover()", graph.edge(0, 2), 1);
    Checks.due("weight 32767 behind recover()", graph.edge(1, 2), 32767);
    graph.run(0);
    Checks.due("the distance over both", graph.distance(2), 32768);
    for (int weight : new int[] {-1, 0, 32768, 65537}) {
      Checks.refused(States.OPEN, "add of weight " + weight, ARGUMENT,
          one -> one.add(0, 1, weight));
    }
  }

  private static void anEdgeMayLeadToWhereItIsFrom() {
    BlockGraph graph = Probe.begun();
    Checks.due("a loop at 0", graph.add(0, 0, 1), 0);
    Checks.due("a loop at 63", graph.add(63, 63, 32767), 1);
    Checks.due("the loop at 0", Probe.edge(graph, 0), "0 0 1");
    Checks.due("the loop at 63", Probe.edge(graph, 1), "63 63 32767");
    Checks.due("run(63) on a loop", graph.run(63), 1);
    Checks.due("distance(63) on a loop", graph.distance(63), 0);
    Checks.due("parent(63) on a loop", graph.parent(63), -1);
  }

  private static void visibleIsWhatThePendingMakeOfTheCommitted() {
    BlockGraph graph = States.IDLE.make();
    graph.begin();
    graph.remove(2);
    graph.add(7, 8, 9);
    graph.add(10, 11, 12);
    Checks.due("visible: a committed one", Probe.edge(graph, 1), "1 2 5");
    Checks.due("visible: one in place of another", Probe.edge(graph, 2), "7 8 9");
    Checks.due("visible: a new one", Probe.edge(graph, 5), "10 11 12");
    Checks.due("visible: how many", graph.count(Probe.EDGES), 6);
    graph.recover();
    Checks.due("committed: the old one", Probe.edge(graph, 2), "0 2 11");
    Checks.due("committed: how many", graph.count(Probe.EDGES), 5);
  }
}

import java.util.Arrays;
import java.util.NoSuchElementException;

/**
 * A graph on blocks that are written one by one: transactions go to a log first; the power may
 * fail behind any write; what was committed comes again, and nothing else.
 */
public final class BlockGraph {
  public static final int NONE = -1;

  private static final int VERTICES = 64;
  private static final int EDGES = 200;
  private static final int EDGES_A_BLOCK = 4;
  private static final int BLOCKS = 50;
  private static final int NO_EDGE = 0;
  private static final int MOST_WEIGHT = 32767;
  private static final int MOST_OPERATIONS = 20;
  private static final int FIRST_ROOM = 8;

  private static final int IS_UP = 0;
  private static final int POWER_FAILED = 1;
  private static final int NO_GRAPH = 2;

  private final Power power;
  private final Hand hand;
  private final Store store;
  private final EdgeTable visible;
  private final Operations pending;
  private final Ways ways;
  private boolean up;
  private boolean open;
  private int known;

  public BlockGraph() {
    power = new Power();
    hand = new Hand();
    store = new Store(power, hand);
    visible = new EdgeTable();
    pending = new Operations();
    ways = new Ways();
    up = false;
    open = false;
    known = 0;
  }

  public boolean format() {
    startAnew();
    visible.erase();
    settleState(store.layOut(visible));
    return up;
  }

  public void begin() throws IllegalStateException {
    mustBeUp();
    if (open) {
      throw new IllegalStateException("a transaction is open");
    }
    open = true;
  }

  public int add(int from, int to, int weight)
      throws IllegalStateException, IllegalArgumentException, UnsupportedOperationException {
    mustBeOpen();
    mustBeVertex(from);
    mustBeVertex(to);
    if (weight < 1 || weight > MOST_WEIGHT) {
      throw new IllegalArgumentException("no such weight");
    }
    if (visible.size == EDGES) {
      throw new UnsupportedOperationException("there are 200 edges");
    }
    mustHaveRoomForOperation();
    int number = visible.leastFree();
    operate(number, from, to, weight);
    return number;
  }

  public void remove(int edge)
      throws IllegalStateException, NoSuchElementException, UnsupportedOperationException {
    mustBeOpen();
    mustBeVisible(edge);
    mustHaveRoomForOperation();
    operate(edge, 0, 0, NO_EDGE);
  }

  public boolean commit() throws IllegalStateException {
    mustBeOpen();
    boolean allWritten = pending.size == 0 || store.save(pending, visible);
    closeTransaction();
    settleState(allWritten);
    return allWritten;
  }

  public int abort() throws IllegalStateException {
    mustBeOpen();
    int dropped = pending.size;
    closeTransaction();
    if (dropped > 0) {
      // No log waits while the store is up, so the home blocks hold all that is committed.
      visible.copyAll(store.home);
      ways.forget();
    }
    return dropped;
  }

  public void arm(int writes) throws IllegalArgumentException {
    if (writes < NONE) {
      throw new IllegalArgumentException("fewer than no writes");
    }
    power.left = writes;
  }

  public int recover() {
    startAnew();
    boolean allWritten = store.replay(visible);
    settleState(allWritten && store.hasGraph);
    if (!allWritten) {
      return POWER_FAILED;
    }
    return store.hasGraph ? IS_UP : NO_GRAPH;
  }

  public int edge(int edge, int what)
      throws IllegalStateException, NoSuchElementException, IllegalArgumentException {
    mustBeUp();
    mustBeVisible(edge);
    if (what < 0 || what > 2) {
      throw new IllegalArgumentException("no such part of an edge");
    }
    hand.look(edge / EDGES_A_BLOCK);
    if (what == 0) {
      return visible.from[edge];
    }
    return what == 1 ? visible.to[edge] : visible.weight[edge];
  }

  public void room(int blocks) throws IllegalArgumentException {
    if (blocks < 1 || blocks > BLOCKS) {
      throw new IllegalArgumentException("no such room");
    }
    hand.limit(blocks);
  }

  public int run(int source) throws IllegalStateException, IllegalArgumentException {
    mustBeUp();
    mustBeVertex(source);
    for (int block = 0; block < BLOCKS; block++) {
      hand.look(block);
    }
    return ways.measure(visible, source);
  }

  public int distance(int vertex) throws IllegalStateException, IllegalArgumentException {
    mustHaveWayTo(vertex);
    return ways.distances[vertex];
  }

  public int parent(int vertex) throws IllegalStateException, IllegalArgumentException {
    mustHaveWayTo(vertex);
    return ways.parents[vertex];
  }

  public int way(int vertex, int k)
      throws IllegalStateException, IllegalArgumentException, IndexOutOfBoundsException {
    mustHaveWayTo(vertex);
    int length = ways.length(vertex);
    if (k < 0 || k >= length) {
      throw new IndexOutOfBoundsException("not so many vertices on the way");
    }
    return ways.goBack(vertex, length - 1 - k);
  }

  public int atHand(int k) throws IndexOutOfBoundsException {
    if (k < 0 || k >= hand.size) {
      throw new IndexOutOfBoundsException("not so many blocks at hand");
    }
    return hand.blocks[k];
  }

  public int count(int what) throws IllegalArgumentException {
    switch (what) {
      case 0:
        return up ? visible.size : NONE;
      case 1:
        return power.writes;
      case 2:
        return hand.reads;
      case 3:
        return up && open ? pending.size : NONE;
      case 4:
        return hand.size;
      case 5:
        return power.left;
      case 6:
        return store.hasGraph ? known : 0;
      case 7:
        return up ? 0 : 1;
      default:
        throw new IllegalArgumentException("no such count");
    }
  }

  private void mustBeUp() {
    if (!up) {
      throw new IllegalStateException("the store is down, or there is no graph");
    }
  }

  private void mustBeOpen() {
    mustBeUp();
    if (!open) {
      throw new IllegalStateException("no transaction is open");
    }
  }

  private void mustBeVertex(int vertex) {
    if (vertex < 0 || vertex >= VERTICES) {
      throw new IllegalArgumentException("no such vertex");
    }
  }

  private void mustBeVisible(int edge) {
    if (!visible.has(edge)) {
      throw new NoSuchElementException("no such edge");
    }
  }

  private void mustHaveRoomForOperation() {
    if (pending.size == MOST_OPERATIONS) {
      throw new UnsupportedOperationException("the transaction has 20 operations");
    }
  }

  private void mustHaveWayTo(int vertex) {
    mustBeUp();
    if (!ways.fresh) {
      throw new IllegalStateException("the distances are stale");
    }
    mustBeVertex(vertex);
  }

  private void operate(int edge, int from, int to, int weight) {
    pending.append(edge, from, to, weight);
    visible.put(edge, from, to, weight);
    ways.forget();
  }

  private void closeTransaction() {
    open = false;
    pending.size = 0;
  }

  private void startAnew() {
    closeTransaction();
    ways.forget();
    hand.size = 0;
  }

  /** The number of transactions is taken over only while the power holds: count(6) asks so. */
  private void settleState(boolean isUp) {
    up = isUp;
    if (isUp) {
      known = store.committed;
    }
  }

  /** Edges by their numbers; no weight is 0, so that NO_EDGE can stand where there is none. */
  private static final class EdgeTable {
    final int[] from = new int[EDGES];
    final int[] to = new int[EDGES];
    final int[] weight = new int[EDGES];
    int size = 0;

    boolean has(int edge) {
      return edge >= 0 && edge < EDGES && weight[edge] != NO_EDGE;
    }

    int leastFree() {
      for (int edge = 0; edge < EDGES; edge++) {
        if (weight[edge] == NO_EDGE) {
          return edge;
        }
      }
      return NONE;
    }

    void put(int edge, int newFrom, int newTo, int newWeight) {
      if (edge < 0 || edge >= EDGES) {
        return;
      }
      size += (newWeight == NO_EDGE ? 0 : 1) - (weight[edge] == NO_EDGE ? 0 : 1);
      from[edge] = newFrom;
      to[edge] = newTo;
      weight[edge] = newWeight;
    }

    void erase() {
      Arrays.fill(weight, NO_EDGE);
      size = 0;
    }

    void copyBlock(EdgeTable source, int block) {
      int first = block * EDGES_A_BLOCK;
      for (int edge = first; edge < first + EDGES_A_BLOCK; edge++) {
        if (edge >= 0 && edge < EDGES) {
          put(edge, source.from[edge], source.to[edge], source.weight[edge]);
        }
      }
    }

    void copyAll(EdgeTable source) {
      System.arraycopy(source.from, 0, from, 0, EDGES);
      System.arraycopy(source.to, 0, to, 0, EDGES);
      System.arraycopy(source.weight, 0, weight, 0, EDGES);
      size = source.size;
    }
  }

  /**
   * Operations in their order. Each says what its edge is from then on, so that doing them once
   * more changes nothing: a recovery that failed may begin again.
   */
  private static final class Operations {
    private final int[] edge = new int[MOST_OPERATIONS];
    private final int[] from = new int[MOST_OPERATIONS];
    private final int[] to = new int[MOST_OPERATIONS];
    private final int[] weight = new int[MOST_OPERATIONS];
    int size = 0;

    void append(int itsEdge, int itsFrom, int itsTo, int itsWeight) {
      if (size >= MOST_OPERATIONS) {
        return;
      }
      edge[size] = itsEdge;
      from[size] = itsFrom;
      to[size] = itsTo;
      weight[size] = itsWeight;
      size++;
    }

    void copyOne(Operations source, int k) {
      if (k < 0 || k >= MOST_OPERATIONS) {
        return;
      }
      edge[k] = source.edge[k];
      from[k] = source.from[k];
      to[k] = source.to[k];
      weight[k] = source.weight[k];
    }

    void doAll(EdgeTable table) {
      for (int k = 0; k < size && k < MOST_OPERATIONS; k++) {
        table.put(edge[k], from[k], to[k], weight[k]);
      }
    }

    boolean areAbout(int block) {
      for (int k = 0; k < size && k < MOST_OPERATIONS; k++) {
        if (edge[k] / EDGES_A_BLOCK == block) {
          return true;
        }
      }
      return false;
    }
  }

  /** Every write is asked for here, so that the power can fail behind any of them. */
  private static final class Power {
    int left = NONE;
    int writes = 0;

    boolean holds() {
      if (left == 0) {
        left = NONE;
        return false;
      }
      if (left > 0) {
        left--;
      }
      writes++;
      return true;
    }
  }

  /** The home blocks at hand, the latest first. */
  private static final class Hand {
    final int[] blocks = new int[BLOCKS];
    int size = 0;
    int reads = 0;
    private int most = FIRST_ROOM;

    void limit(int newMost) {
      most = newMost;
      size = Math.min(size, most);
    }

    void look(int block) {
      if (place(block) == NONE) {
        reads++;
      }
      putFirst(block);
    }

    void putFirst(int block) {
      int place = place(block);
      if (place == NONE) {
        size = Math.min(size + 1, most);
        place = size - 1;
      }
      // What stands at the place goes: the block itself, or the oldest one.
      System.arraycopy(blocks, 0, blocks, 1, place);
      blocks[0] = block;
    }

    private int place(int block) {
      for (int k = 0; k < size && k < BLOCKS; k++) {
        if (blocks[k] == block) {
          return k;
        }
      }
      return NONE;
    }
  }

  /**
   * What the blocks hold, that is all that outlasts a failure of the power: the head, the home
   * blocks, the log blocks and the mark, which is the size of the log (0: it is empty).
   */
  private static final class Store {
    private final Power power;
    private final Hand hand;
    private final Operations log = new Operations();
    final EdgeTable home = new EdgeTable();
    boolean hasGraph = false;
    int committed = 0;

    Store(Power itsPower, Hand itsHand) {
      power = itsPower;
      hand = itsHand;
    }

    boolean layOut(EdgeTable empty) {
      if (!writeHead(false)) {
        return false;
      }
      committed = 0;
      for (int block = 0; block < BLOCKS; block++) {
        if (!writeHome(block, empty)) {
          return false;
        }
      }
      return writeMark(0) && writeHead(true);
    }

    boolean save(Operations operations, EdgeTable result) {
      for (int k = 0; k < operations.size; k++) {
        if (!writeLog(operations, k)) {
          return false;
        }
      }
      if (!writeMark(operations.size)) {
        return false;
      }
      committed++;
      return bringHome(result);
    }

    /**
     * The document makes the writes depend on the mark alone: a log that a broken format() left
     * full is brought home, too, though there is no graph then.
     */
    boolean replay(EdgeTable result) {
      result.copyAll(home);
      log.doAll(result);
      return log.size == 0 || bringHome(result);
    }

    private boolean bringHome(EdgeTable result) {
      for (int block = 0; block < BLOCKS; block++) {
        if (log.areAbout(block) && !writeHome(block, result)) {
          return false;
        }
      }
      return writeMark(0);
    }

    private boolean writeHead(boolean graph) {
      if (!power.holds()) {
        return false;
      }
      hasGraph = graph;
      return true;
    }

    private boolean writeHome(int block, EdgeTable content) {
      if (!power.holds()) {
        return false;
      }
      home.copyBlock(content, block);
      hand.putFirst(block);
      return true;
    }

    private boolean writeLog(Operations operations, int k) {
      if (!power.holds()) {
        return false;
      }
      log.copyOne(operations, k);
      return true;
    }

    private boolean writeMark(int logSize) {
      if (!power.holds()) {
        return false;
      }
      log.size = logSize;
      return true;
    }
  }

  /** Shortest ways from one source, as they were when they were measured. */
  private static final class Ways {
    final int[] distances = new int[VERTICES];
    final int[] parents = new int[VERTICES];
    private final int[] before = new int[VERTICES];
    boolean fresh = false;

    void forget() {
      fresh = false;
    }

    int measure(EdgeTable edges, int source) {
      Arrays.fill(distances, NONE);
      Arrays.fill(parents, NONE);
      distances[source] = 0;
      boolean changed = true;
      for (int round = 0; changed && round < VERTICES; round++) {
        changed = shorten(edges);
      }
      chooseParents(edges);
      fresh = true;
      return countReached();
    }

    private boolean shorten(EdgeTable edges) {
      boolean changed = false;
      for (int edge = 0; edge < EDGES; edge++) {
        if (leadsOn(edges, edge)) {
          int to = edges.to[edge];
          int over = distances[edges.from[edge]] + edges.weight[edge];
          if (distances[to] == NONE || over < distances[to]) {
            distances[to] = over;
            changed = true;
          }
        }
      }
      return changed;
    }

    private void chooseParents(EdgeTable edges) {
      for (int edge = 0; edge < EDGES; edge++) {
        if (leadsOn(edges, edge)) {
          int from = edges.from[edge];
          int to = edges.to[edge];
          if (parents[to] == NONE && distances[from] + edges.weight[edge] == distances[to]) {
            parents[to] = edge;
            before[to] = from;
          }
        }
      }
    }

    private boolean leadsOn(EdgeTable edges, int edge) {
      return edges.has(edge) && distances[edges.from[edge]] != NONE;
    }

    private int countReached() {
      int reached = 0;
      for (int vertex = 0; vertex < VERTICES; vertex++) {
        if (distances[vertex] != NONE) {
          reached++;
        }
      }
      return reached;
    }

    /** How many vertices the way has; 0 if the vertex cannot be reached. */
    int length(int vertex) {
      if (distances[vertex] == NONE) {
        return 0;
      }
      int length = 1;
      for (int at = vertex; parents[at] != NONE && length < VERTICES; at = before[at]) {
        length++;
      }
      return length;
    }

    int goBack(int vertex, int steps) {
      int at = vertex;
      for (int step = 0; step < steps; step++) {
        at = before[at];
      }
      return at;
    }
  }
}

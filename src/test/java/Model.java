import java.util.ArrayList;
import java.util.Arrays;
import java.util.Collections;
import java.util.LinkedList;
import java.util.List;
import java.util.NoSuchElementException;
import java.util.TreeMap;
import java.util.TreeSet;

/**
 * The document once more, told another way, to compare answers with: a call first lists all its
 * writes as things to do, and the power then does as many of them as it can.
 */
final class Model {
  private static final int NONE = -1;

  // What is on the blocks.
  private boolean head = false;
  private boolean full = false;
  private final TreeMap<Integer, int[]> home = new TreeMap<>();
  private List<int[]> log = new ArrayList<>();
  private int transactions = 0;

  // What is not.
  private boolean down = false;
  private int armed = NONE;
  private int writes = 0;
  private int reads = 0;
  private int room = 8;
  private int known = 0;
  private final LinkedList<Integer> hand = new LinkedList<>();
  private List<int[]> pending = null;
  private int[] distances = null;
  private int[] parents = null;

  boolean format() {
    forget();
    List<Runnable> all = new ArrayList<>();
    all.add(() -> {
      head = false;
      transactions = 0;
    });
    for (int block = 0; block < 50; block++) {
      all.add(writingHome(block, new TreeMap<>()));
    }
    all.add(() -> full = false);
    all.add(() -> head = true);
    return write(all);
  }

  void begin() {
    check(isUp() && pending == null, new IllegalStateException());
    pending = new ArrayList<>();
  }

  int add(int from, int to, int weight) {
    check(isUp() && pending != null, new IllegalStateException());
    check(isVertex(from) && isVertex(to) && weight > 0 && weight < 32768,
        new IllegalArgumentException());
    check(visible().size() < 200 && pending.size() < 20, new UnsupportedOperationException());
    int number = 0;
    while (visible().containsKey(number)) {
      number++;
    }
    pending.add(new int[] {number, from, to, weight});
    distances = null;
    return number;
  }

  void remove(int edge) {
    check(isUp() && pending != null, new IllegalStateException());
    check(visible().containsKey(edge), new NoSuchElementException());
    check(pending.size() < 20, new UnsupportedOperationException());
    pending.add(new int[] {edge});
    distances = null;
  }

  boolean commit() {
    check(isUp() && pending != null, new IllegalStateException());
    List<int[]> operations = pending;
    List<Runnable> all = new ArrayList<>();
    if (!operations.isEmpty()) {
      // Nothing can tell what a log block holds before its mark is written.
      operations.forEach(operation -> all.add(() -> { }));
      all.add(() -> {
        log = operations;
        full = true;
        transactions++;
      });
      all.addAll(bringingHome(operations));
    }
    pending = null;
    return write(all);
  }

  int abort() {
    check(isUp() && pending != null, new IllegalStateException());
    int operations = pending.size();
    pending = null;
    distances = operations > 0 ? null : distances;
    return operations;
  }

  void arm(int newWrites) {
    check(newWrites >= -1, new IllegalArgumentException());
    armed = newWrites;
  }

  int recover() {
    forget();
    if (!write(full ? bringingHome(log) : new ArrayList<>())) {
      return 1;
    }
    return head ? 0 : 2;
  }

  int edge(int edge, int what) {
    check(isUp(), new IllegalStateException());
    check(visible().containsKey(edge), new NoSuchElementException());
    check(what == 0 || what == 1 || what == 2, new IllegalArgumentException());
    look(edge / 4);
    return visible().get(edge)[what + 1];
  }

  void room(int blocks) {
    check(blocks >= 1 && blocks <= 50, new IllegalArgumentException());
    room = blocks;
    dropTooMany();
  }

  int run(int source) {
    check(isUp(), new IllegalStateException());
    check(isVertex(source), new IllegalArgumentException());
    for (int block = 0; block < 50; block++) {
      look(block);
    }
    measure(source);
    return (int) Arrays.stream(distances).filter(distance -> distance != NONE).count();
  }

  int distance(int vertex) {
    check(isUp() && distances != null, new IllegalStateException());
    check(isVertex(vertex), new IllegalArgumentException());
    return distances[vertex];
  }

  int parent(int vertex) {
    distance(vertex);
    return parents[vertex];
  }

  int way(int vertex, int k) {
    List<Integer> way = new ArrayList<>();
    if (distance(vertex) != NONE) {
      way.add(vertex);
      while (parents[way.get(way.size() - 1)] != NONE) {
        way.add(visible().get(parents[way.get(way.size() - 1)])[1]);
      }
    }
    Collections.reverse(way);
    check(k >= 0 && k < way.size(), new IndexOutOfBoundsException());
    return way.get(k);
  }

  int atHand(int k) {
    check(k >= 0 && k < hand.size(), new IndexOutOfBoundsException());
    return hand.get(k);
  }

  int count(int what) {
    check(what >= 0 && what <= 7, new IllegalArgumentException());
    int[] counts = {
      isUp() ? visible().size() : NONE, writes, reads,
      isUp() && pending != null ? pending.size() : NONE, hand.size(), armed, head ? known : 0,
      isUp() ? 0 : 1,
    };
    return counts[what];
  }

  private static void check(boolean holds, RuntimeException otherwise) {
    if (!holds) {
      throw otherwise;
    }
  }

  private static boolean isVertex(int vertex) {
    return vertex >= 0 && vertex <= 63;
  }

  private boolean isUp() {
    return head && !down;
  }

  private TreeMap<Integer, int[]> visible() {
    return pending == null ? home : with(pending);
  }

  private TreeMap<Integer, int[]> with(List<int[]> operations) {
    TreeMap<Integer, int[]> edges = new TreeMap<>(home);
    for (int[] operation : operations) {
      if (operation.length == 1) {
        edges.remove(operation[0]);
      } else {
        edges.put(operation[0], operation);
      }
    }
    return edges;
  }

  private void forget() {
    pending = null;
    distances = null;
    hand.clear();
  }

  private List<Runnable> bringingHome(List<int[]> operations) {
    TreeMap<Integer, int[]> result = with(operations);
    TreeSet<Integer> blocks = new TreeSet<>();
    operations.forEach(operation -> blocks.add(operation[0] / 4));
    List<Runnable> all = new ArrayList<>();
    blocks.forEach(block -> all.add(writingHome(block, result)));
    all.add(() -> full = false);
    return all;
  }

  private Runnable writingHome(int block, TreeMap<Integer, int[]> content) {
    return () -> {
      home.subMap(block * 4, block * 4 + 4).clear();
      home.putAll(content.subMap(block * 4, block * 4 + 4));
      putFirst(block);
    };
  }

  private boolean write(List<Runnable> all) {
    for (Runnable one : all) {
      if (armed == 0) {
        armed = NONE;
        down = true;
        return false;
      }
      armed = armed == NONE ? NONE : armed - 1;
      writes++;
      one.run();
    }
    down = false;
    known = transactions;
    return true;
  }

  private void look(int block) {
    reads += hand.contains(block) ? 0 : 1;
    putFirst(block);
  }

  private void putFirst(int block) {
    hand.removeFirstOccurrence(block);
    hand.addFirst(block);
    dropTooMany();
  }

  private void dropTooMany() {
    while (hand.size() > room) {
      hand.removeLast();
    }
  }

  /** Settles the nearest vertex that is not settled yet, as long as there is one. */
  private void measure(int source) {
    distances = new int[64];
    parents = new int[64];
    Arrays.fill(distances, NONE);
    Arrays.fill(parents, NONE);
    distances[source] = 0;
    TreeMap<Integer, int[]> edges = visible();
    TreeSet<Integer> settled = new TreeSet<>();
    for (int at = source; at != NONE; at = nearest(settled)) {
      settled.add(at);
      for (int[] edge : edges.values()) {
        int over = distances[at] + edge[3];
        if (edge[1] == at && (distances[edge[2]] == NONE || over < distances[edge[2]])) {
          distances[edge[2]] = over;
        }
      }
    }
    for (int[] edge : edges.descendingMap().values()) {
      if (distances[edge[1]] != NONE && distances[edge[1]] + edge[3] == distances[edge[2]]) {
        parents[edge[2]] = edge[0];
      }
    }
  }

  private int nearest(TreeSet<Integer> settled) {
    int best = NONE;
    for (int vertex = 0; vertex < 64; vertex++) {
      if (distances[vertex] != NONE && !settled.contains(vertex)
          && (best == NONE || distances[vertex] < distances[best])) {
        best = vertex;
      }
    }
    return best;
  }
}

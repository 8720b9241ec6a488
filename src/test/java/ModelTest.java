import java.util.function.IntSupplier;

/** Long runs of mixed calls, each answered by the program and by the model. */
final class ModelTest {
  private static final int RUNS = 600;
  private static final int CALLS = 512;
  private static final int[] ODD_NUMBERS = {
    -1, -2, 64, 200, 199, 32767, 32768, 50, 51, 8, 3, Integer.MIN_VALUE, Integer.MAX_VALUE,
  };

  private final BlockGraph graph = new BlockGraph();
  private final Model model = new Model();
  private final int run;
  private final int vertices;
  private final boolean grows;
  private long seed;

  private ModelTest(int number) {
    run = number;
    seed = number * 7919L + 17;
    grows = number % 4 == 0;
    vertices = 2 + below(number % 3 == 0 ? 6 : 62);
  }

  static void run() {
    for (int number = 0; number < RUNS; number++) {
      new ModelTest(number).compare();
    }
  }

  private void compare() {
    for (int call = 0; call < CALLS; call++) {
      step();
    }
  }

  /** The same numbers in every run of the tests, so that a fault comes again. */
  private int below(int bound) {
    seed = seed * 6364136223846793005L + 1442695040888963407L;
    return (int) ((seed >>> 33) % bound);
  }

  private int mostly(int usual) {
    return below(40) == 0 ? ODD_NUMBERS[below(ODD_NUMBERS.length)] : usual;
  }

  private void step() {
    int dice = below(100);
    if (grows && model.count(7) == 0 && model.count(0) < 200 && dice > 3) {
      grow();
    } else if (model.count(7) == 1 && dice < 50) {
      mend(dice);
    } else if (dice < 60) {
      change(dice);
    } else {
      ask(dice);
    }
  }

  /** Mixed calls alone hardly come near 20 operations and never near 200 edges. */
  private void grow() {
    if (model.count(3) == -1) {
      same("begin()", () -> done(graph::begin), () -> done(model::begin));
    } else if (model.count(3) == 20 && below(3) > 0) {
      same("commit()", () -> graph.commit() ? 1 : 0, () -> model.commit() ? 1 : 0);
    } else {
      addBoth(mostly(below(vertices)), mostly(below(vertices)), mostly(1 + below(9)));
    }
  }

  private void mend(int dice) {
    if (dice < 20) {
      same("recover()", graph::recover, model::recover);
    } else if (dice < 35) {
      same("format()", () -> graph.format() ? 1 : 0, () -> model.format() ? 1 : 0);
    } else {
      armBoth(below(3) == 0 ? below(60) : below(6) - 1);
    }
  }

  private void change(int dice) {
    if (model.count(3) == -1 && dice < 30) {
      same("begin()", () -> done(graph::begin), () -> done(model::begin));
    } else if (dice < 32) {
      addBoth(mostly(below(vertices)), mostly(below(vertices)), mostly(1 + below(9)));
    } else if (dice < 45) {
      int edge = mostly(below(Math.max(model.count(0), 0) + 1));
      same("remove(" + edge + ")", () -> done(() -> graph.remove(edge)),
          () -> done(() -> model.remove(edge)));
    } else if (dice < 52) {
      same("commit()", () -> graph.commit() ? 1 : 0, () -> model.commit() ? 1 : 0);
    } else if (dice < 54) {
      same("abort()", graph::abort, model::abort);
    } else if (dice < 58) {
      armBoth(mostly(below(2) == 0 ? below(30) : -1));
    } else if (below(4) == 0) {
      same("recover()", graph::recover, model::recover);
    } else if (below(8) == 0) {
      same("format()", () -> graph.format() ? 1 : 0, () -> model.format() ? 1 : 0);
    }
  }

  private void ask(int dice) {
    int vertex = mostly(below(vertices));
    int small = mostly(below(8));
    if (dice < 66) {
      same("run(" + vertex + ")", () -> graph.run(vertex), () -> model.run(vertex));
    } else if (dice < 70) {
      same("distance(" + vertex + ")", () -> graph.distance(vertex), () -> model.distance(vertex));
    } else if (dice < 74) {
      same("parent(" + vertex + ")", () -> graph.parent(vertex), () -> model.parent(vertex));
    } else if (dice < 79) {
      same("way(" + vertex + ", " + small + ")", () -> graph.way(vertex, small),
          () -> model.way(vertex, small));
    } else if (dice < 84) {
      int edge = mostly(below(Math.max(model.count(0), 0) + 1));
      int what = mostly(below(3));
      same("edge(" + edge + ", " + what + ")", () -> graph.edge(edge, what),
          () -> model.edge(edge, what));
    } else if (dice < 90) {
      same("atHand(" + small + ")", () -> graph.atHand(small), () -> model.atHand(small));
    } else if (dice < 91) {
      int blocks = mostly(1 + below(below(2) == 0 ? 50 : 10));
      same("room(" + blocks + ")", () -> done(() -> graph.room(blocks)),
          () -> done(() -> model.room(blocks)));
    } else {
      same("count(" + small + ")", () -> graph.count(small), () -> model.count(small));
    }
  }

  private void addBoth(int from, int to, int weight) {
    same("add(" + from + ", " + to + ", " + weight + ")", () -> graph.add(from, to, weight),
        () -> model.add(from, to, weight));
  }

  private void armBoth(int writes) {
    same("arm(" + writes + ")", () -> done(() -> graph.arm(writes)),
        () -> done(() -> model.arm(writes)));
  }

  private static int done(Runnable call) {
    call.run();
    return 0;
  }

  private void same(String call, IntSupplier got, IntSupplier want) {
    Checks.due("run " + run + " of the model: " + call, Probe.answer(got), Probe.answer(want));
  }
}

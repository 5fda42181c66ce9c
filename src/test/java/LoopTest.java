/** Promises 4 to 9: the KINDS of LOOPS, their tables, beginnings, TICKS and SUMS. */
public final class LoopTest {
  private static final long MOST = 1000000000000L;
  private static final int NO_TICK = CoarseSteps.REFUSED;

  public static void main(String[] args) {
    promise4LoopTakesWhatCanBe();
    promise4LoopRefusesDoingNothing();
    promise5TableTakesWhatThereIs();
    promise5TableBeginsAnew();
    promise5LoopEmptiesAllTables();
    promise6Start();
    promise7First();
    promise7Two();
    promise7Tables();
    promise7Row();
    promise7Bounds();
    promise7BoundsOfMoreSums();
    promise8Run();
    promise9Sum();
    Check.end();
  }

  private static void promise4LoopTakesWhatCanBe() {
    Check.heading("promise 4");
    int[][] spans = {{0, 0}, {0, 0}, {1, 4}, {2, 3}, {2, 16}};
    CoarseSteps x = new CoarseSteps();
    for (int kind = -2; kind <= 7; kind++) {
      for (int n = -2; n <= 20; n++) {
        for (int rule = -1; rule <= 3; rule++) {
          boolean isKind = kind >= 0 && kind < spans.length;
          boolean due = isKind && n >= spans[kind][0] && n <= spans[kind][1]
              && (rule == 0 || (rule == 1 && kind == 4));
          String call = "loop(" + kind + ", " + n + ", " + rule + ")";
          Check.same(call, due ? 1 : 0, x.loop(kind, n, rule) ? 1 : 0);
          if (due) {
            Check.same("about(2) after " + call, kind, x.about(2));
            Check.same("about(4) after " + call, kind == 4 ? n : 0, x.about(4));
            int sums = kind == 1 ? 2 : kind == 2 || kind == 3 ? n : 1;
            Check.same("about(3) after " + call, sums, x.about(3));
          }
        }
      }
    }
    Check.no("loop of extremes", x.loop(Integer.MIN_VALUE, Integer.MAX_VALUE, Integer.MIN_VALUE));
    x.loop(4, 3, 0);
    x.tick(1);
    Check.yes("loop(4, 3, 0)", x.loop(4, 3, 0));
    Check.same("about(5)", 0, x.about(5));
    Check.same("about(8)", 0, x.about(8));
    Check.same("part(0, 1)", 0, x.part(0, 1));
  }

  private static void promise4LoopRefusesDoingNothing() {
    Check.heading("promise 4, wrong ones");
    CoarseSteps x = new CoarseSteps();
    x.loop(4, 3, 1);
    x.tick(5);
    Check.no("loop(2, 5, 0)", x.loop(2, 5, 0));
    Check.no("loop(4, 17, 0)", x.loop(4, 17, 0));
    Check.no("loop(4, 5, 2)", x.loop(4, 5, 2));
    Check.no("loop(1, 2, 0)", x.loop(1, 2, 0));
    Check.same("about(2)", 4, x.about(2));
    Check.same("about(4)", 3, x.about(4));
    Check.same("about(5)", 1, x.about(5));
    Check.same("sum(0)", 4, x.sum(0));
    Check.same("part(0, 0)", 1, x.part(0, 0));
  }

  private static void promise5TableTakesWhatThereIs() {
    Check.heading("promise 5");
    CoarseSteps x = new CoarseSteps();
    for (int n = 1; n <= 4; n++) {
      x.loop(2, n, 0);
      for (int i = -2; i <= 7; i++) {
        for (int j = -2; j <= 7; j++) {
          boolean isRow = i >= 0 && i < n;
          boolean isColumn = j >= 0 && j < n;
          boolean due = (isRow && (isColumn || j == 4 || j == 5)) || (i == 4 && (isColumn || j == 4));
          Check.same(n + " SUMS: table(" + i + ", " + j + ", 1)", due ? 1 : 0,
              x.table(i, j, 1) ? 1 : 0);
        }
      }
      Check.yes("table(0, 0, 10)", x.table(0, 0, 10));
      Check.yes("table(0, 0, -10)", x.table(0, 0, -10));
      Check.no("table(0, 0, 11)", x.table(0, 0, 11));
      Check.no("table(0, 0, -11)", x.table(0, 0, -11));
      Check.no("table of extremes", x.table(Integer.MIN_VALUE, Integer.MAX_VALUE, 0));
    }
    int[][] others = {{0, 0}, {1, 0}, {3, 2}, {4, 4}};
    for (int[] other : others) {
      x.loop(other[0], other[1], 0);
      x.tick(3);
      Check.no("table(0, 0, 1) of KIND " + other[0], x.table(0, 0, 1));
      Check.same("about(5) of KIND " + other[0], 1, x.about(5));
    }
  }

  private static void promise5TableBeginsAnew() {
    Check.heading("promise 5, anew");
    CoarseSteps x = likeFirst();
    x.over(4);
    Check.same("run(3, 1)", 3, x.run(3, 1));
    Check.no("table(0, 0, 11)", x.table(0, 0, 11));
    Check.no("table(1, 0, 1)", x.table(1, 0, 1));
    Check.same("sum(0) after refused ones", 3, x.sum(0));
    Check.yes("table(0, 4, 2)", x.table(0, 4, 2));
    Check.same("sum(0)", 0, x.sum(0));
    Check.same("about(5)", 0, x.about(5));
    x.tick(1);
    Check.same("sum(0) by b 2: the other entries stay", 2, x.sum(0));
    x.steps(2, 0, 1, 0, 0, 0, 0, 0, 0);
    x.tick(1);
    Check.same("sum(0): tables outlive steps()", 2, x.sum(0));
    x.loop(2, 1, 0);
    x.tick(1);
    Check.same("sum(0): loop() makes them all 0", 0, x.sum(0));
  }

  private static void promise5LoopEmptiesAllTables() {
    Check.heading("promise 5, all of it");
    CoarseSteps x = new CoarseSteps();
    x.loop(2, 4, 0);
    for (int i = 0; i <= 4; i++) {
      for (int j = 0; j <= 5; j++) {
        x.table(i, j, 1);
      }
    }
    x.loop(2, 4, 0);
    x.start(0, 7);
    x.start(3, 9);
    Check.same("tick(5): h and g are 0", 0, x.tick(5));
    for (int k = 0; k < 4; k++) {
      Check.same("sum(" + k + "): a and b are 0", 0, x.sum(k));
    }
    x.table(4, 4, 1);
    Check.same("tick(5): g is 1", 1, x.tick(5));
    for (int k = 0; k < 4; k++) {
      Check.same("sum(" + k + "): e is 0", 0, x.sum(k));
    }
    for (int j = 0; j < 4; j++) {
      x.loop(2, 4, 0);
      x.table(4, j, 1);
      for (int k = 0; k < 4; k++) {
        x.start(k, k == j ? 1 : 0);
      }
      Check.same("tick(0): h(" + j + ") alone", 1, x.tick(0));
    }
  }

  private static CoarseSteps likeFirst() {
    CoarseSteps x = new CoarseSteps();
    x.loop(2, 1, 0);
    x.table(0, 0, 1);
    x.table(0, 4, 1);
    x.table(0, 5, -1);
    x.table(4, 0, 1);
    x.table(4, 4, 1);
    return x;
  }

  private static void promise6Start() {
    Check.heading("promise 6");
    CoarseSteps x = new CoarseSteps();
    Check.yes("start(0, MOST)", x.start(0, MOST));
    Check.same("sum(0)", MOST, x.sum(0));
    Check.yes("start(0, -MOST)", x.start(0, -MOST));
    Check.same("sum(0)", -MOST, x.sum(0));
    Check.no("start(0, MOST + 1)", x.start(0, MOST + 1));
    Check.no("start(0, -MOST - 1)", x.start(0, -MOST - 1));
    Check.no("start(0, most long)", x.start(0, Long.MAX_VALUE));
    Check.no("start(0, least long)", x.start(0, Long.MIN_VALUE));
    Check.no("start(1, 0) of one SUM", x.start(1, 0));
    Check.no("start(-1, 0)", x.start(-1, 0));
    Check.no("start(least, 0)", x.start(Integer.MIN_VALUE, 0));
    Check.same("sum(0)", -MOST, x.sum(0));
    x.tick(5);
    Check.no("start(0, 1) behind a TICK", x.start(0, 1));
    Check.same("sum(0)", -MOST + 5, x.sum(0));
    x.loop(2, 3, 0);
    Check.yes("start(2, 7)", x.start(2, 7));
    Check.no("start(3, 7)", x.start(3, 7));
    Check.same("sum(0)", 0, x.sum(0));
    Check.same("sum(2)", 7, x.sum(2));
    x.tick(1000001);
    Check.yes("start(0, 1): a refused TICK was none", x.start(0, 1));
  }

  private static void promise7First() {
    Check.heading("promise 7, FIRST");
    CoarseSteps x = new CoarseSteps();
    x.over(4);
    x.steps(3, -1, 0, 1, 0, 0, 0, 0, 0);
    int[] given = {-1, 0, 0, 0, -1};
    long[] sums = {3, 2, 1, 0, 3};
    for (int k = 0; k < given.length; k++) {
      Check.same("tick(-1)", given[k], x.tick(-1));
      Check.same("sum(0)", sums[k], x.sum(0));
    }
    Check.same("tick(1): c * D at most V, V itself", 1, x.tick(1));
    Check.same("tick(9)", 1, x.tick(9));
    Check.same("sum(0) grows if no STEP is so great", 5, x.sum(0));
    Check.same("tick(-14)", -1, x.tick(-14));
    Check.same("sum(0) falls if no STEP is so small", -5, x.sum(0));
    int[] wrong = {1000001, -1000001, Integer.MAX_VALUE, Integer.MIN_VALUE};
    for (int w : wrong) {
      Check.same("tick(" + w + ")", NO_TICK, x.tick(w));
    }
    Check.same("sum(0)", -5, x.sum(0));
    Check.same("about(5)", 8, x.about(5));
    Check.same("tick(1000000)", 1, x.tick(1000000));
    Check.same("tick(-1000000)", -1, x.tick(-1000000));
    Check.same("sum(0)", -5 - 4 + 4, x.sum(0));
  }

  private static void promise7Two() {
    Check.heading("promise 7, TWO");
    CoarseSteps x = new CoarseSteps();
    x.loop(1, 0, 0);
    long[][] sums = {{2, 0}, {6, 2}, {12, 6}};
    for (long[] due : sums) {
      Check.same("tick(3)", 1, x.tick(3));
      Check.same("sum(0)", due[0], x.sum(0));
      Check.same("sum(1)", due[1], x.sum(1));
    }
    Check.same("tick(-18): V is 0", 0, x.tick(-18));
    Check.same("sum(0)", 0, x.sum(0));
    Check.same("sum(1)", 12, x.sum(1));
  }

  private static void promise7Tables() {
    Check.heading("promise 7, TABLES");
    CoarseSteps x = new CoarseSteps();
    x.over(10);
    x.steps(3, -1, 0, 2, 0, 0, 0, 0, 0);
    x.loop(2, 2, 0);
    int[][] entries = {
      {0, 0, 2}, {0, 1, -1}, {1, 0, 3}, {1, 1, 1}, {0, 4, 4}, {1, 4, -2}, {0, 5, 5}, {1, 5, -7},
      {4, 0, 1}, {4, 1, 2}, {4, 4, 3},
    };
    for (int[] entry : entries) {
      Check.yes("table", x.table(entry[0], entry[1], entry[2]));
    }
    Check.same("tick(7)", 2, x.tick(7));
    Check.same("sum(0)", 28 + 100, x.sum(0));
    Check.same("sum(1)", -14 - 140, x.sum(1));
    Check.same("tick(-3)", -1, x.tick(-3));
    Check.same("sum(0)", 256 + 154 - 12 - 50, x.sum(0));
    Check.same("sum(1)", 384 - 154 + 6 + 70, x.sum(1));
    promise7FourSums();
  }

  private static void promise7FourSums() {
    CoarseSteps x = new CoarseSteps();
    x.loop(2, 4, 0);
    for (int i = 0; i < 4; i++) {
      x.table(i, (i + 1) % 4, 1);
    }
    x.table(4, 3, -1);
    for (int k = 0; k < 4; k++) {
      x.start(k, 10 + k);
    }
    Check.same("tick(0): V is -13", 0, x.tick(0));
    long[] due = {11, 12, 13, 10};
    for (int k = 0; k < 4; k++) {
      Check.same("sum(" + k + ") of four", due[k], x.sum(k));
    }
  }

  private static void promise7Row() {
    Check.heading("promise 7, ROW");
    CoarseSteps x = new CoarseSteps();
    x.steps(3, 0, 1, 2, 0, 0, 0, 0, 0);
    x.over(3);
    x.loop(3, 3, 0);
    // Each row: the wish, what is GIVEN, the three SUMS.
    int[][] rows = {
      {5, 1, 2, 2, 2}, {5, 3, 1, 0, 2}, {2, 0, 0, 0, 2}, {8, 3, 2, 2, 1}, {0, -1, 2, 1, 2},
      {0, 1, 2, 0, 2},
    };
    for (int[] row : rows) {
      Check.same("tick(" + row[0] + ")", row[1], x.tick(row[0]));
      for (int k = 0; k < 3; k++) {
        Check.same("sum(" + k + ")", row[2 + k], x.sum(k));
      }
    }
    promise7RowIsForgottenAnew();
  }

  private static void promise7RowIsForgottenAnew() {
    CoarseSteps x = new CoarseSteps();
    x.loop(3, 2, 0);
    x.start(1, 5);
    Check.same("tick(0): the second's STEP is 1", 1, x.tick(0));
    Check.same("tick(0): it stays 1", 0, x.tick(0));
    x.over(1);
    x.start(1, 5);
    Check.same("tick(0) anew: 0 for none before", 1, x.tick(0));
    x.loop(3, 3, 0);
    x.start(2, 5);
    int[] given = {1, -1, 0, 0};
    for (int due : given) {
      Check.same("tick(0): the third's STEP stays 1", due, x.tick(0));
    }
    x.over(1);
    x.start(2, 5);
    Check.same("tick(0) of three anew", 1, x.tick(0));
    Check.same("tick(0) of three anew", -1, x.tick(0));
  }

  private static void promise7Bounds() {
    Check.heading("promise 7, bounds");
    CoarseSteps x = new CoarseSteps();
    x.start(0, MOST);
    Check.same("tick(1) leads to MOST", 1, x.tick(1));
    Check.same("tick(2) would lead beyond", NO_TICK, x.tick(2));
    Check.same("sum(0)", MOST, x.sum(0));
    Check.same("about(5)", 1, x.about(5));
    Check.same("was(0, 1)", 1, x.was(0, 1));
    x.over(1);
    x.start(0, -MOST);
    Check.same("tick(0) leads to -MOST", 0, x.tick(0));
    Check.same("tick(-1) would lead beyond", NO_TICK, x.tick(-1));
    Check.same("sum(0)", -MOST, x.sum(0));
    x.loop(4, 3, 0);
    x.start(0, MOST);
    x.tick(1);
    Check.same("tick(2) of a WHEEL", NO_TICK, x.tick(2));
    Check.same("about(8)", 1, x.about(8));
    Check.same("part(0, 0)", 1, x.part(0, 0));
    Check.same("part(1, 1)", 0, x.part(1, 1));
  }

  private static void promise7BoundsOfMoreSums() {
    Check.heading("promise 7, bounds of more SUMS");
    CoarseSteps x = new CoarseSteps();
    x.loop(3, 2, 0);
    x.start(0, 1);
    x.start(1, MOST);
    Check.same("tick(2): the second would be beyond", NO_TICK, x.tick(2));
    Check.same("sum(0) stays, too", 1, x.sum(0));
    Check.same("tick(1)", 1 + 1, x.tick(1));
    Check.same("tick(1): d' is that of a TICK that was done", 1, x.tick(1));
    x.loop(2, 2, 0);
    x.table(1, 0, 10);
    x.start(0, 1 + MOST / 10);
    Check.same("tick(0): a table's second", NO_TICK, x.tick(0));
    Check.same("sum(0)", 1 + MOST / 10, x.sum(0));
    x.start(0, MOST / 10);
    Check.same("tick(0): just so", 0, x.tick(0));
    Check.same("sum(1)", MOST, x.sum(1));
    x.loop(1, 0, 0);
    x.start(0, MOST / 2 + 1);
    Check.same("tick(0): 2 s - 1 is MOST + 1", NO_TICK, x.tick(0));
    x.start(1, 1);
    Check.same("tick(0): one less", 1, x.tick(0));
    Check.same("sum(0)", MOST, x.sum(0));
  }

  private static void promise8Run() {
    Check.heading("promise 8");
    CoarseSteps x = new CoarseSteps();
    x.over(3);
    Check.same("run(0, 1)", 0, x.run(0, 1));
    Check.same("about(5)", 0, x.about(5));
    Check.same("run(10000, 1)", 10000, x.run(10000, 1));
    Check.same("about(5)", 10000, x.about(5));
    Check.same("sum(0)", 1, x.sum(0));
    int[][] wrong = {{-1, 1}, {10001, 1}, {1, 1000001}, {0, -1000001}, {Integer.MIN_VALUE, 0}};
    for (int[] pair : wrong) {
      String call = "run(" + pair[0] + ", " + pair[1] + ")";
      Check.same(call, CoarseSteps.NONE, x.run(pair[0], pair[1]));
    }
    Check.same("about(5)", 10000, x.about(5));
    x.over(1);
    x.start(0, MOST - 5);
    Check.same("run(100, 2) until one is refused", 5, x.run(100, 2));
    Check.same("sum(0)", MOST, x.sum(0));
    Check.same("about(5)", 5, x.about(5));
    Check.same("run(1, 2)", 0, x.run(1, 2));
    Check.same("run(3, 1000000)", 0, x.run(3, 1000000));
    Check.same("run(3, -1000000)", 3, x.run(3, -1000000));
  }

  private static void promise9Sum() {
    Check.heading("promise 9");
    CoarseSteps x = new CoarseSteps();
    x.loop(2, 4, 0);
    for (int k = 0; k < 4; k++) {
      x.start(k, -3L - k);
      Check.same("sum(" + k + ")", -3 - k, x.sum(k));
    }
    int[] wrong = {-1, 4, Integer.MAX_VALUE, Integer.MIN_VALUE};
    for (int k : wrong) {
      Check.same("sum(" + k + ")", 0, x.sum(k));
    }
    x.loop(0, 0, 0);
    x.tick(-8);
    Check.same("sum(0)", -8, x.sum(0));
    Check.same("sum(1) of a FIRST", 0, x.sum(1));
  }
}

/** Promise 7: tick, and what the terms say of the KINDS. */
public final class Promise07Test {
  private static final long MOST = Bench.MOST_SUM;
  private static final int REFUSED = Bench.REFUSED;

  public static void main(String[] args) {
    stepForIsAtMost();
    stepForNoneIsTheLeast();
    leastAndGreatestWish();
    beyondTheWishes();
    notDoneDoesNothing();
    first();
    two();
    twoAsItWasBefore();
    tables();
    tablesAsTheyWereBefore();
    tablesOfTheGreatestNumbers();
    rowOfTwo();
    rowOfThree();
    rowPassesOnWhatItBecomes();
    rowHasNoneBefore();
    boundsOfAFirst();
    boundsOfTwo();
    boundsOfTables();
    boundsOfARow();
    boundsOfAWheel();
    the512thCall();
    nothingElseChanges();
    Check.end();
  }

  private static void stepForIsAtMost() {
    Check.sentence(7, "the greatest STEP c with c * D at most V");
    int[] steps = {-100, -7, -1, 0, 1, 4, 99, 100};
    for (int d : new int[] {1, 2, 7, 10000}) {
      CoarseSteps x = Bench.over(d, steps);
      for (int k = 0; k < steps.length; k++) {
        long at = (long) steps[k] * d;
        fromIs(x, d, at, steps[k], "V is c * D");
        fromIs(x, d, at - 1, steps[Math.max(0, k - 1)], "V is one less");
        boolean isNext = d == 1 && k < 7 && steps[k] + 1 == steps[k + 1];
        fromIs(x, d, at + 1, isNext ? steps[k + 1] : steps[k], "V is one more");
      }
      fromIs(x, d, MOST, 100, "V is far above the greatest");
    }
  }

  private static void fromIs(CoarseSteps x, int d, long v, int due, String why) {
    x.over(d);
    x.start(0, v);
    Check.same(why + ": tick(0) from " + v + " over " + d, due, x.tick(0));
    Check.same("sum(0)", v - (long) due * d, x.sum(0));
  }

  private static void stepForNoneIsTheLeast() {
    Check.sentence(7, "the least, if there is none");
    CoarseSteps x = Bench.over(5, 3, 4);
    fromIs(x, 5, 14, 3, "below 3 * 5");
    fromIs(x, 5, 0, 3, "nothing at all");
    fromIs(x, 5, -1000, 3, "below 0");
    x = Bench.over(5, -3, 4);
    fromIs(x, 5, -16, -3, "below -3 * 5");
    fromIs(x, 5, -MOST, -3, "far below");
  }

  private static void leastAndGreatestWish() {
    Check.sentence(7, "a wish W (-1000000 .. 1000000)");
    for (int[] kind : Bench.kinds()) {
      CoarseSteps x = Bench.loop(kind[0], kind[1], kind[2]);
      Check.yes("tick(1000000), KIND " + kind[0], x.tick(1000000) != REFUSED);
      Check.same("was(0, 1)", 1000000, x.was(0, 1));
      x.over(1);
      Check.yes("tick(-1000000), KIND " + kind[0], x.tick(-1000000) != REFUSED);
      Check.same("was(0, 1)", -1000000, x.was(0, 1));
    }
    CoarseSteps x = new CoarseSteps();
    x.tick(1000000);
    Check.same("sum(0)", 999999, x.sum(0));
    x.tick(-1000000);
    Check.same("sum(0)", -1, x.sum(0));
  }

  private static void beyondTheWishes() {
    Check.sentence(7, "REFUSED, doing nothing, if there is no such wish");
    Bench.unchangedBy(x -> {
      for (int w : Bench.beyondWishes()) {
        Check.same("tick(" + w + ")", REFUSED, x.tick(w));
      }
    });
  }

  private static void notDoneDoesNothing() {
    Check.sentence(7, "REFUSED, doing nothing, if it is not done");
    int[][] kinds = {{0, 0, 0}, {1, 0, 0}, {3, 2, 0}, {3, 3, 0}, {4, 3, 0}, {4, 3, 1}};
    for (int[] kind : kinds) {
      Bench.sameBehind("KIND " + kind[0], () -> nearTheBound(kind), x -> {}, x -> {
        Check.same("tick(1000000), KIND " + kind[0], REFUSED, x.tick(1000000));
        Check.same("tick(999999), KIND " + kind[0], REFUSED, x.tick(999999));
      });
    }
    Bench.sameBehind("TABLES", Promise07Test::tablesNearTheBound, x -> {},
        x -> Check.same("tick(1000000), TABLES", REFUSED, x.tick(1000000)));
  }

  private static CoarseSteps nearTheBound(int[] kind) {
    CoarseSteps x = Bench.over(1, 0, 1, 2);
    x.loop(kind[0], kind[1], kind[2]);
    for (int k = 0; k < x.about(3); k++) {
      x.start(k, MOST - 1000);
    }
    if (kind[0] == 3) {
      // Else a ROW would pass its great SUM on.
      x.start(0, 1000);
    }
    x.weight(1);
    Bench.ticks(x, 2, 1);
    return x;
  }

  private static CoarseSteps tablesNearTheBound() {
    CoarseSteps x = Bench.loop(2, 2, 0);
    x.table(0, 0, 1);
    x.table(1, 1, 1);
    x.table(1, 4, 10);
    x.table(4, 4, 1);
    x.start(0, 3);
    x.start(1, MOST - 1000);
    Bench.ticks(x, 2, -1);
    return x;
  }

  private static void first() {
    Check.sentence(7, "V = s + W; s becomes V - c * D. c is GIVEN");
    CoarseSteps x = Bench.over(4, -1, 0, 1);
    int[] given = {-1, 0, 0, 0, -1};
    long[] sums = {3, 2, 1, 0, 3};
    for (int k = 0; k < given.length; k++) {
      Check.same("tick(-1)", given[k], x.tick(-1));
      Check.same("sum(0)", sums[k], x.sum(0));
    }
    Check.same("tick(9)", 1, x.tick(9));
    Check.same("sum(0) grows if no STEP is so great", 8, x.sum(0));
    Check.same("tick(-17)", -1, x.tick(-17));
    Check.same("sum(0) falls if no STEP is so small", -5, x.sum(0));
  }

  private static void two() {
    Check.sentence(7, "V = W + 2 s - t; t becomes s, s becomes V - c * D");
    CoarseSteps x = Bench.loop(1, 0, 0);
    long[][] sums = {{2, 0}, {6, 2}, {12, 6}};
    for (long[] due : sums) {
      Check.same("tick(3)", 1, x.tick(3));
      Check.same("sum(0)", due[0], x.sum(0));
      Check.same("sum(1)", due[1], x.sum(1));
    }
    Check.same("tick(-18): V is 0", 0, x.tick(-18));
    Check.same("sum(0)", 0, x.sum(0));
    Check.same("sum(1)", 12, x.sum(1));
  }

  private static void twoAsItWasBefore() {
    Check.sentence(7, "s as it was before");
    CoarseSteps x = Bench.loop(1, 0, 0);
    x.start(0, 100);
    x.start(1, 7);
    x.tick(0);
    Check.same("sum(0)", 192, x.sum(0));
    Check.same("sum(1)", 100, x.sum(1));
  }

  private static void tables() {
    Check.sentence(7, "V = sum of h ( j ) * s ( j ), and g * W; a * s, and b * W, and e * c * D");
    CoarseSteps x = Bench.over(10, -1, 0, 2);
    x.loop(2, 2, 0);
    int[][] entries = {
      {0, 0, 2}, {0, 1, -1}, {1, 0, 3}, {1, 1, 1}, {0, 4, 4}, {1, 4, -2}, {0, 5, 5}, {1, 5, -7},
      {4, 0, 1}, {4, 1, 2}, {4, 4, 3},
    };
    for (int[] entry : entries) {
      Check.yes("table", x.table(entry[0], entry[1], entry[2]));
    }
    Check.same("tick(7)", 2, x.tick(7));
    Check.same("sum(0)", 28 + 100, x.sum(0));
    Check.same("sum(1)", -14 - 140, x.sum(1));
    Check.same("tick(-3)", -1, x.tick(-3));
    Check.same("sum(0)", 256 + 154 - 12 - 50, x.sum(0));
    Check.same("sum(1)", 384 - 154 + 6 + 70, x.sum(1));
  }

  private static void tablesAsTheyWereBefore() {
    Check.sentence(7, "s ( j ) over all j (as they were before)");
    CoarseSteps x = Bench.loop(2, 4, 0);
    for (int i = 0; i < 4; i++) {
      x.table(i, (i + 1) % 4, 1);
    }
    x.table(4, 3, -1);
    for (int k = 0; k < 4; k++) {
      x.start(k, 10 + k);
    }
    Check.same("tick(0): V is -13", 0, x.tick(0));
    for (int k = 0; k < 4; k++) {
      Check.same("sum(" + k + ")", 10 + (k + 1) % 4, x.sum(k));
    }
  }

  private static void tablesOfTheGreatestNumbers() {
    Check.sentence(7, "-10 .. 10, with the greatest SUMS and wishes");
    CoarseSteps x = Bench.over(10000, -100, 100);
    x.loop(2, 4, 0);
    for (int j = 0; j < 4; j++) {
      x.table(4, j, 10);
      x.table(0, j, j % 2 == 0 ? 10 : -10);
    }
    x.table(4, 4, 10);
    x.table(0, 4, 10);
    x.table(0, 5, -10);
    for (int k = 0; k < 4; k++) {
      x.start(k, MOST);
    }
    Check.same("tick(1000000)", 100, x.tick(1000000));
    Check.same("sum(0)", 10L * 1000000 - 10L * 100 * 10000, x.sum(0));
    x.over(10000);
    for (int k = 0; k < 4; k++) {
      x.start(k, -MOST);
    }
    Check.same("tick(1000000)", -100, x.tick(1000000));
    Check.same("sum(0)", 10L * 1000000 + 10L * 100 * 10000, x.sum(0));
  }

  private static void rowOfTwo() {
    Check.sentence(7, "GIVEN is c + (d - d')");
    CoarseSteps x = Bench.over(4, 0, 1);
    x.loop(3, 2, 0);
    // Each row: the wish, what is GIVEN, the two SUMS.
    int[][] rows = {
      {1, 0, 1, 1}, {1, 0, 2, 3}, {1, 1, 3, 2}, {1, 0, 0, 2}, {1, 0, 1, 3}, {1, 1, 2, 1},
    };
    for (int[] row : rows) {
      Check.same("tick(" + row[0] + ")", row[1], x.tick(row[0]));
      Check.same("sum(0)", row[2], x.sum(0));
      Check.same("sum(1)", row[3], x.sum(1));
    }
  }

  private static void rowOfThree() {
    Check.sentence(7, "and, of three, + (f - 2 f' + f'')");
    CoarseSteps x = Bench.over(3, 0, 1, 2);
    x.loop(3, 3, 0);
    // Each row: the wish, what is GIVEN, the three SUMS.
    int[][] rows = {
      {5, 1, 2, 2, 2}, {5, 3, 1, 0, 2}, {2, 0, 0, 0, 2}, {8, 3, 2, 2, 1}, {0, -1, 2, 1, 2},
      {0, 1, 2, 0, 2},
    };
    for (int[] row : rows) {
      Check.same("tick(" + row[0] + ")", row[1], x.tick(row[0]));
      for (int k = 0; k < 3; k++) {
        Check.same("sum(" + k + ")", row[2 + k], x.sum(k));
      }
    }
  }

  private static void rowPassesOnWhatItBecomes() {
    Check.sentence(7, "each other's is what the SUM of the one ahead of it becomes in this TICK");
    CoarseSteps x = Bench.over(10, 0, 1);
    x.loop(3, 3, 0);
    x.start(0, 100);
    x.tick(5);
    Check.same("sum(0)", 95, x.sum(0));
    Check.same("sum(1)", 85, x.sum(1));
    Check.same("sum(2)", 75, x.sum(2));
    x.over(1);
    x.start(0, 7000000);
    Check.same("tick(0): what is passed on may be more than a wish", 3, x.tick(0));
    Check.same("sum(1)", 6999998, x.sum(1));
  }

  private static void rowHasNoneBefore() {
    Check.sentence(7, "those of the TICK before, that of the one before that (0 for none)");
    CoarseSteps x = Bench.over(1, 1, 2);
    x.loop(3, 2, 0);
    Check.same("of two, the first: 1 + (1 - 0)", 2, x.tick(1));
    Check.same("of two, the second: 1 + (1 - 1)", 1, x.tick(1));
    x.loop(3, 3, 0);
    Check.same("of three, the first: 1 + 1 + 1", 3, x.tick(1));
    Check.same("of three, the second: 1 + 0 + (1 - 2)", 0, x.tick(1));
    Check.same("of three, the third: 1 + 0 + (1 - 2 + 1)", 1, x.tick(1));
    Check.same("of three, the fourth", 1, x.tick(1));
    x.loop(3, 2, 0);
    Check.same("of two behind three: 1 + 1 and no third", 2, x.tick(1));
    Check.same("of two behind three", 1, x.tick(1));
    x = Bench.over(1, -100, 100);
    x.loop(3, 3, 0);
    x.start(0, 1000000);
    x.start(1, -1000000);
    x.start(2, 1000000);
    x.tick(0);
    Check.same("GIVEN of great ones", 100 - 100 + 100, x.was(0, 0));
  }

  private static void boundsOfAFirst() {
    Check.sentence(7, "above 1000000000000, or below -1000000000000, is not done");
    CoarseSteps x = Bench.firstFrom(1, MOST);
    Check.same("tick(1) leads to MOST", 1, x.tick(1));
    Check.same("sum(0)", MOST, x.sum(0));
    Check.same("tick(2) would lead beyond", REFUSED, x.tick(2));
    Check.same("sum(0)", MOST, x.sum(0));
    x = Bench.firstFrom(1, -MOST);
    Check.same("tick(0) leads to -MOST", 0, x.tick(0));
    Check.same("sum(0)", -MOST, x.sum(0));
    Check.same("tick(-1) would lead beyond", REFUSED, x.tick(-1));
    Check.same("sum(0)", -MOST, x.sum(0));
    Check.same("about(5)", 1, x.about(5));
    Check.same("tick(1) leads back", 0, x.tick(1));
    Check.same("sum(0)", 1 - MOST, x.sum(0));
  }

  private static void boundsOfTwo() {
    Check.sentence(7, "is not done: TWO");
    CoarseSteps x = Bench.loop(1, 0, 0);
    x.start(0, MOST / 2 + 1);
    Check.same("tick(0): 2 s - 1 is MOST + 1", REFUSED, x.tick(0));
    x.start(1, 1);
    Check.same("tick(0): one less", 1, x.tick(0));
    Check.same("sum(0)", MOST, x.sum(0));
    x.over(1);
    x.start(0, -MOST / 2);
    Check.same("tick(-1): 2 s - 1 is -MOST - 1", REFUSED, x.tick(-1));
    Check.same("tick(0)", 0, x.tick(0));
    Check.same("sum(0)", -MOST, x.sum(0));
    x.over(1);
    x.start(1, MOST);
    Check.same("tick(0): -t alone", 0, x.tick(0));
    Check.same("sum(0)", -MOST, x.sum(0));
    x.over(1);
    x.start(0, MOST);
    x.start(1, -MOST);
    Check.same("tick(0): 3 MOST", REFUSED, x.tick(0));
  }

  private static void boundsOfTables() {
    Check.sentence(7, "a SUM would be above, or below: any of TABLES");
    for (int n = 1; n <= 4; n++) {
      for (int k = 0; k < n; k++) {
        CoarseSteps x = Bench.loop(2, n, 0);
        x.table(k, k, 1);
        x.table(k, 4, 1);
        x.start(k, MOST - 1);
        Check.same("tick(2): SUM " + k + " of " + n, REFUSED, x.tick(2));
        Check.same("sum(" + k + ")", MOST - 1, x.sum(k));
        Check.same("tick(1): SUM " + k + " of " + n, 0, x.tick(1));
        Check.same("sum(" + k + ")", MOST, x.sum(k));
        x.over(1);
        x.start(k, 1 - MOST);
        Check.same("tick(-2): SUM " + k + " of " + n, REFUSED, x.tick(-2));
        Check.same("tick(-1): SUM " + k + " of " + n, 0, x.tick(-1));
        Check.same("sum(" + k + ")", -MOST, x.sum(k));
      }
    }
  }

  private static void boundsOfARow() {
    Check.sentence(7, "is not done (of a ROW, if any would)");
    for (int n = 2; n <= 3; n++) {
      for (int k = 0; k < n; k++) {
        CoarseSteps x = Bench.loop(3, n, 0);
        x.start(k, MOST);
        // Each one ahead, and this one, takes 1 of what is wished, so that k + 2 is 1 too many.
        Check.same("tick, SUM " + k + " of " + n, REFUSED, x.tick(k + 2));
        Check.same("sum(" + k + ")", MOST, x.sum(k));
        Check.same("about(5)", 0, x.about(5));
        Check.yes("tick, one less, SUM " + k + " of " + n, x.tick(k + 1) != REFUSED);
        Check.same("sum(" + k + ")", MOST, x.sum(k));
        x.over(1);
        x.start(k, -MOST);
        Check.same("tick(-1), SUM " + k + " of " + n, REFUSED, x.tick(-1));
        Check.same("sum(" + k + ")", -MOST, x.sum(k));
      }
    }
    CoarseSteps x = Bench.loop(3, 3, 0);
    x.start(2, -MOST);
    Check.same("tick(0): the third stays at -MOST", 0, x.tick(0));
    Check.same("sum(2)", -MOST, x.sum(2));
  }

  private static void boundsOfAWheel() {
    Check.sentence(7, "is not done: a WHEEL does not turn by it");
    CoarseSteps x = Bench.loop(4, 3, 0);
    x.start(0, MOST);
    x.tick(1);
    Check.same("tick(2)", REFUSED, x.tick(2));
    Check.same("about(8)", 1, x.about(8));
    Check.same("part(0, 0)", 1, x.part(0, 0));
    Check.same("part(0, 1)", 1, x.part(0, 1));
    Check.same("part(1, 1)", 0, x.part(1, 1));
  }

  private static void the512thCall() {
    Check.sentence(7, "at most 512 calls after it has been made: the last of them");
    CoarseSteps x = Bench.over(511);
    for (int k = 1; k <= 510; k++) {
      Check.same("tick(1)", 0, x.tick(1));
    }
    Check.same("tick(1), the 512th call", 1, x.tick(1));
  }

  private static void nothingElseChanges() {
    Check.sentence(7, "makes a step, and new SUMS: nothing that outlives the LOOP");
    Bench.sameBehind(x -> x.over(4), x -> {
      Bench.ticks(x, 3, -2, 11);
      x.over(4);
    });
    CoarseSteps x = Bench.over(4);
    x.box(0, 0, 3);
    x.weight(9);
    x.tick(4);
    Check.same("kept(0, 4): the BOX", 1, x.kept(0, 4));
    Check.same("kept(0, 5): the BOX", 0, x.kept(0, 5));
    Check.same("read(): the FILTER", 9, x.read());
  }
}

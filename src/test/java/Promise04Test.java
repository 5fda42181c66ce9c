/** Promise 4: loop. */
public final class Promise04Test {
  private static final int[] FAR = {Integer.MIN_VALUE, Integer.MAX_VALUE};

  public static void main(String[] args) {
    kindsThereAre();
    kindsThereAreNot();
    firstAndTwoHaveNoNumber();
    tablesHaveOneToFour();
    rowsHaveTwoOrThree();
    wheelsHaveTwoToSixteen();
    rulesOfAWheel();
    rulesOfTheOthers();
    refusedDoesNothing();
    aLoopBegins();
    tablesAreAllZero();
    allElseStays();
    nothingElseChanges();
    Check.end();
  }

  private static void taken(int kind, int n, int rule, int sums) {
    for (int[] from : Bench.kinds()) {
      CoarseSteps x = Bench.busy(from[0], from[1], from[2]);
      String call = "loop(" + kind + ", " + n + ", " + rule + ")";
      Check.yes(call, x.loop(kind, n, rule));
      Check.same("about(2) after " + call, kind, x.about(2));
      Check.same("about(3) after " + call, sums, x.about(3));
      Check.same("about(4) after " + call, kind == 4 ? n : 0, x.about(4));
    }
  }

  private static void refused(int kind, int n, int rule) {
    CoarseSteps x = Bench.busy(4, 5, 0);
    String call = "loop(" + kind + ", " + n + ", " + rule + ")";
    Check.no(call, x.loop(kind, n, rule));
    Check.same("about(2) after " + call, 4, x.about(2));
    Check.same("about(4) after " + call, 5, x.about(4));
    Check.same("about(5) after " + call, 4, x.about(5));
  }

  private static void kindsThereAre() {
    Check.sentence(4, "0 FIRST, 1 TWO, 2 TABLES, 3 ROW, 4 WHEEL");
    taken(0, 0, 0, 1);
    taken(1, 0, 0, 2);
    taken(2, 1, 0, 1);
    taken(3, 2, 0, 2);
    taken(4, 2, 0, 1);
  }

  private static void kindsThereAreNot() {
    Check.sentence(4, "A LOOP of a KIND; false, if one can't be");
    for (int kind : new int[] {-1, 5, FAR[0], FAR[1]}) {
      for (int n = 0; n <= 4; n++) {
        refused(kind, n, 0);
      }
    }
  }

  private static void firstAndTwoHaveNoNumber() {
    Check.sentence(4, "n is SUMS of TABLES, of a ROW, PARTS of a WHEEL, else 0");
    for (int kind = 0; kind <= 1; kind++) {
      for (int n : new int[] {1, -1, 2, FAR[0], FAR[1]}) {
        refused(kind, n, 0);
      }
    }
  }

  private static void tablesHaveOneToFour() {
    Check.sentence(4, "TABLES: n SUMS (1 .. 4)");
    for (int n = 1; n <= 4; n++) {
      taken(2, n, 0, n);
    }
    for (int n : new int[] {0, 5, -1, FAR[0], FAR[1]}) {
      refused(2, n, 0);
    }
  }

  private static void rowsHaveTwoOrThree() {
    Check.sentence(4, "ROW: n SUMS (2, 3)");
    taken(3, 2, 0, 2);
    taken(3, 3, 0, 3);
    for (int n : new int[] {1, 4, 0, -2, FAR[0], FAR[1]}) {
      refused(3, n, 0);
    }
  }

  private static void wheelsHaveTwoToSixteen() {
    Check.sentence(4, "n PARTS (2 .. 16)");
    for (int n = 2; n <= 16; n++) {
      taken(4, n, 0, 1);
      taken(4, n, 1, 1);
    }
    for (int n : new int[] {1, 17, 0, -2, FAR[0], FAR[1]}) {
      refused(4, n, 0);
      refused(4, n, 1);
    }
  }

  private static void rulesOfAWheel() {
    Check.sentence(4, "rule is a WHEEL's");
    for (int rule : new int[] {-1, 2, FAR[0], FAR[1]}) {
      refused(4, 4, rule);
    }
    for (int rule = 0; rule <= 1; rule++) {
      CoarseSteps x = Bench.over(1, 0, 1, 2);
      x.loop(4, 3, rule);
      Bench.ticks(x, 1, 2, 2);
      // By the HAND 0, then 1 and 2, then 0 and 1; by times the same, so that 2 1 0 is next.
      Bench.ticks(x, 0, 1);
      Check.same("part(2, 0) by rule " + rule, 1, x.part(2, 0));
      Check.same("about(8) by rule " + rule, 0, x.about(8));
      x.tick(2);
      Check.same("about(8) by rule " + rule, rule == 0 ? 2 : 0, x.about(8));
    }
  }

  private static void rulesOfTheOthers() {
    Check.sentence(4, "rule is a WHEEL's, else 0");
    int[][] others = {{0, 0}, {1, 0}, {2, 2}, {3, 2}};
    for (int[] other : others) {
      for (int rule : new int[] {1, -1, 2, FAR[0], FAR[1]}) {
        refused(other[0], other[1], rule);
      }
    }
  }

  private static void refusedDoesNothing() {
    Check.sentence(4, "false, doing nothing");
    int[][] wrong = {{5, 0, 0}, {0, 1, 0}, {1, 0, 1}, {2, 5, 0}, {2, 0, 0}, {3, 4, 0}, {4, 17, 0},
      {4, 4, 2}};
    Bench.unchangedBy(x -> {
      for (int[] loop : wrong) {
        Check.no("loop(" + loop[0] + ", ..)", x.loop(loop[0], loop[1], loop[2]));
      }
    });
  }

  private static void aLoopBegins() {
    Check.sentence(4, "A LOOP begins: SUMS 0, no TICKS, HAND 0, PARTS OFF and never ON");
    for (int[] from : Bench.kinds()) {
      for (int[] to : Bench.kinds()) {
        CoarseSteps x = Bench.busy(from[0], from[1], from[2]);
        x.loop(to[0], to[1], to[2]);
        Bench.begunAnew("from KIND " + from[0] + " to " + to[0], x);
      }
    }
    CoarseSteps x = Bench.loop(3, 3, 0);
    x.start(1, 50);
    x.start(2, 50);
    x.run(9, 1);
    x.loop(3, 3, 0);
    x.start(1, 50);
    x.start(2, 50);
    Check.same("tick(0): STEPS before are 0, as there were none", 2, x.tick(0));
  }

  private static void tablesAreAllZero() {
    Check.sentence(4, "their tables all 0");
    for (int n = 1; n <= 4; n++) {
      CoarseSteps x = Bench.loop(2, 4, 0);
      for (int i = 0; i <= 4; i++) {
        for (int j = 0; j <= 5; j++) {
          x.table(i, j, 1);
        }
      }
      x.loop(2, n, 0);
      startAll(x, n);
      Check.same("tick(5): h and g", 0, x.tick(5));
      sumsAreZero(x, n, "a and b");
      Bench.tell(x, 3, 4);
      startAll(x, n);
      Check.same("tick(5)", 3, x.tick(5));
      sumsAreZero(x, n, "e");
    }
  }

  private static void startAll(CoarseSteps x, int n) {
    for (int k = 0; k < n; k++) {
      x.start(k, 7 + k);
    }
  }

  private static void sumsAreZero(CoarseSteps x, int n, String which) {
    for (int k = 0; k < n; k++) {
      Check.same("sum(" + k + ") of " + n + ": " + which, 0, x.sum(k));
    }
  }

  private static void allElseStays() {
    Check.sentence(4, "A LOOP of a KIND begins");
    CoarseSteps x = Bench.busy(0, 0, 0);
    x.over(4);
    x.start(0, 10);
    x.ring(1);
    x.loop(1, 0, 0);
    Check.same("about(0)", 4, x.about(0));
    Check.same("about(1)", 5, x.about(1));
    Check.same("about(7)", 2, x.about(7));
    Check.same("tail()", 1, x.tail());
  }

  private static void nothingElseChanges() {
    Check.sentence(4, "A LOOP of a KIND begins: nothing else changes, as by over()");
    for (int[] kind : Bench.kinds()) {
      Bench.sameBehind("KIND " + kind[0], () -> Bench.busy(kind[0], kind[1], kind[2]), x -> {
        x.over(4);
        Bench.fillTables(x);
      }, x -> {
        x.loop(kind[0], kind[1], kind[2]);
        Bench.fillTables(x);
      });
    }
  }
}

/** Promise 5: table. */
public final class Promise05Test {
  public static void main(String[] args) {
    placesThereAre();
    placesFarOff();
    leastAndGreatest();
    tooSmallAndTooGreat();
    otherKindsHaveNone();
    refusedDoesNothing();
    loopBeginsAnew();
    otherEntriesStay();
    eachEntryHasItsPlace();
    Check.end();
  }

  private static void placesThereAre() {
    Check.sentence(5, "a ( i, j ); j 4: b ( i ), 5: e ( i ); i 4: h ( j ), with j 4: g");
    for (int n = 1; n <= 4; n++) {
      CoarseSteps x = Bench.loop(2, n, 0);
      for (int i = -1; i <= 6; i++) {
        for (int j = -1; j <= 6; j++) {
          boolean isRow = i >= 0 && i < n;
          boolean isColumn = j >= 0 && j < n;
          boolean isG = i == 4 && j == 4;
          boolean due = isG || (isRow && (isColumn || j == 4 || j == 5)) || (i == 4 && isColumn);
          String call = n + " SUMS: table(" + i + ", " + j + ", 1)";
          Check.same(call, due ? 1 : 0, x.table(i, j, 1) ? 1 : 0);
        }
      }
    }
  }

  private static void placesFarOff() {
    Check.sentence(5, "false, if there is none such");
    CoarseSteps x = Bench.loop(2, 4, 0);
    int least = Integer.MIN_VALUE;
    int most = Integer.MAX_VALUE;
    int[][] far = {{least, 0}, {most, 0}, {0, least}, {0, most}, {least, least}, {most, most},
      {4, most}, {4, least}, {least, 4}, {most, 4}, {least, 5}, {1 << 30, 0}, {0, 1 << 30}};
    for (int[] place : far) {
      Check.no("table(" + place[0] + ", " + place[1] + ", 1)", x.table(place[0], place[1], 1));
    }
  }

  private static void leastAndGreatest() {
    Check.sentence(5, "whole numbers -10 .. 10");
    CoarseSteps x = Bench.loop(2, 1, 0);
    for (int v : new int[] {-10, 10}) {
      int[][] places = {{0, 0}, {0, 4}, {0, 5}, {4, 0}, {4, 4}};
      for (int[] place : places) {
        String call = "table(" + place[0] + ", " + place[1] + ", " + v + ")";
        Check.yes(call, x.table(place[0], place[1], v));
      }
    }
    Check.same("tick(3): h, g", 1, x.tick(3));
    Check.same("sum(0): b, e", 30 + 10, x.sum(0));
    x.table(0, 0, -10);
    x.table(0, 4, 0);
    x.table(0, 5, 0);
    x.start(0, 7);
    x.tick(0);
    Check.same("sum(0): a", -70, x.sum(0));
  }

  private static void tooSmallAndTooGreat() {
    Check.sentence(5, "whole numbers -10 .. 10; false, if it can't be");
    CoarseSteps x = Bench.loop(2, 2, 0);
    int[][] places = {{0, 0}, {1, 1}, {0, 4}, {1, 5}, {4, 0}, {4, 4}};
    for (int[] place : places) {
      for (int v : new int[] {11, -11, Integer.MAX_VALUE, Integer.MIN_VALUE}) {
        String call = "table(" + place[0] + ", " + place[1] + ", " + v + ")";
        Check.no(call, x.table(place[0], place[1], v));
      }
    }
  }

  private static void otherKindsHaveNone() {
    Check.sentence(5, "Of TABLES");
    int[][] others = {{0, 0}, {1, 0}, {3, 2}, {3, 3}, {4, 4}};
    for (int[] other : others) {
      Bench.sameBehind("KIND " + other[0], () -> Bench.busy(other[0], other[1], 0), x -> {}, x -> {
        Check.no("table(0, 0, 1) of KIND " + other[0], x.table(0, 0, 1));
        Check.no("table(4, 4, 1) of KIND " + other[0], x.table(4, 4, 1));
      });
    }
    CoarseSteps x = Bench.loop(2, 2, 0);
    x.loop(0, 0, 0);
    Check.no("table(0, 0, 1) of a FIRST that came behind TABLES", x.table(0, 0, 1));
  }

  private static void refusedDoesNothing() {
    Check.sentence(5, "false, doing nothing");
    int[][] wrong = {
      {0, 0, 11}, {4, 4, -11}, {4, 5, 2}, {0, 6, 2}, {-1, 0, 2}, {0, -1, 2}, {5, 0, 2},
    };
    for (int n : new int[] {1, 2, 3, 4}) {
      Bench.sameBehind(n + " SUMS", () -> Bench.busy(2, n, 0), x -> {}, x -> {
        for (int[] entry : wrong) {
          x.table(entry[0], entry[1], entry[2]);
        }
        tellBeyond(x, n);
      });
    }
  }

  private static void tellBeyond(CoarseSteps x, int sums) {
    for (int k = sums; k < 4; k++) {
      x.table(k, 0, 2);
      x.table(0, k, 2);
      x.table(4, k, 2);
    }
  }

  private static void loopBeginsAnew() {
    Check.sentence(5, "The LOOP begins anew");
    int[][] places = {{0, 0}, {1, 0}, {0, 4}, {0, 5}, {4, 0}, {4, 4}};
    for (int[] place : places) {
      CoarseSteps x = Bench.busy(2, 2, 0);
      int i = place[0];
      int j = place[1];
      int asItWas = 1 - (i + 2 * j) % 3;
      Check.yes("as it was", x.table(i, j, asItWas));
      Bench.begunAnew("table(" + i + ", " + j + ", ..)", x);
      Bench.sameBehind("as by over()", () -> Bench.busy(2, 2, 0), y -> y.over(4),
          y -> y.table(i, j, asItWas));
    }
  }

  private static void otherEntriesStay() {
    Check.sentence(5, "a ( i, j ) alone");
    CoarseSteps x = Bench.loop(2, 1, 0);
    x.table(0, 0, 1);
    x.table(0, 4, 1);
    x.table(0, 5, -1);
    x.table(4, 0, 1);
    x.table(4, 4, 1);
    x.over(4);
    x.run(3, 1);
    Check.same("sum(0) of TABLES like a FIRST", 3, x.sum(0));
    x.table(0, 4, 2);
    x.tick(1);
    Check.same("sum(0) by b 2", 2, x.sum(0));
    x.tick(2);
    Check.same("was(0, 0): h and g", 1, x.was(0, 0));
    Check.same("sum(0): a, b and e", 2 + 4 - 4, x.sum(0));
  }

  private static void eachEntryHasItsPlace() {
    Check.sentence(5, "a ( i, j ), b ( i ), e ( i ), h ( j ), g, each by itself");
    for (int i = 0; i < 4; i++) {
      for (int j = 0; j < 6; j++) {
        entryOfARow(i, j);
      }
    }
    for (int j = 0; j < 5; j++) {
      CoarseSteps x = Bench.loop(2, 4, 0);
      Bench.tell(x, 0, 1, 2, 3, 4, 5, 6, 7);
      x.table(4, j, 1);
      startAll(x);
      Check.same("table(4, " + j + ", 1): tick(6)", j == 4 ? 6 : j + 2, x.tick(6));
    }
  }

  private static void startAll(CoarseSteps x) {
    for (int k = 0; k < 4; k++) {
      x.start(k, k + 2);
    }
  }

  private static void entryOfARow(int i, int j) {
    CoarseSteps x = Bench.loop(2, 4, 0);
    Bench.tell(x, 7, 8);
    x.table(i, j, 10);
    startAll(x);
    x.tick(6);
    int due = j == 4 ? 60 : j == 5 ? 70 : 10 * (j + 2);
    for (int k = 0; k < 4; k++) {
      Check.same("table(" + i + ", " + j + ", 10): sum(" + k + ")", k == i ? due : 0, x.sum(k));
    }
  }
}

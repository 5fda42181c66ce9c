import java.util.Arrays;

/** Promise 23: back. */
public final class Promise23Test {
  private static final int REFUSED = Bench.REFUSED;

  public static void main(String[] args) {
    lowAndHigh();
    allWishesOfTheSpan();
    aClaim();
    noWishDoes();
    leastAndGreatestWish();
    stepsWithNoneBelowOrAbove();
    fewestAndMostTicks();
    notOneTo256();
    notSoManyTicks();
    notAllAreKept();
    noFirst();
    notFromZero();
    anotherWhat();
    nothingChanges();
    Check.end();
  }

  private static int[] rowOf(int n, long wish, int d, int... steps) {
    int[] row = new int[n];
    long sum = 0;
    for (int k = 0; k < n; k++) {
      sum += wish;
      int c = steps[0];
      for (int step : steps) {
        if ((long) step * d <= sum) {
          c = step;
        }
      }
      row[k] = c;
      sum -= (long) c * d;
    }
    return row;
  }

  private static void spanIs(String why, CoarseSteps x, int n, int low, int high) {
    Check.same(why + ": back(" + n + ", 0)", low, x.back(n, 0));
    Check.same(why + ": back(" + n + ", 1)", high, x.back(n, 1));
  }

  private static void lowAndHigh() {
    Check.sentence(23, "LOW (what 0), HIGH (1)");
    CoarseSteps x = Bench.over(4);
    x.run(8, 3);
    // 0 1 1 1 0 1 1 1
    spanIs("W below 4", x, 1, -1000000, 3);
    spanIs("2 W at least 4", x, 2, 2, 3);
    spanIs("3 W at least 8", x, 3, 3, 3);
    spanIs("all of them", x, 8, 3, 3);
  }

  private static void allWishesOfTheSpan() {
    Check.sentence(23, "all whole wishes W that, staying, GIVE the same first n");
    CoarseSteps x = Bench.over(100, -3, -1, 0, 2, 5);
    x.run(7, -55);
    spanGives(x, 7, 100, -3, -1, 0, 2, 5);
    x = Bench.over(9973, -3, -1, 0, 2, 5);
    x.run(200, 12345);
    spanGives(x, 60, 9973, -3, -1, 0, 2, 5);
    x = Bench.over(7, -100, -50, 3, 4, 100);
    x.run(40, -20);
    spanGives(x, 40, 7, -100, -50, 3, 4, 100);
  }

  private static void spanGives(CoarseSteps x, int n, int d, int... steps) {
    int all = x.about(5);
    int[] given = new int[n];
    for (int k = 0; k < n; k++) {
      given[k] = x.was(all - 1 - k, 0);
    }
    for (int m = 1; m <= n; m++) {
      int[] row = Arrays.copyOf(given, m);
      int low = x.back(m, 0);
      int high = x.back(m, 1);
      Check.yes("LOW of " + m + " gives it", gives(row, low, d, steps));
      Check.yes("HIGH of " + m + " gives it", gives(row, high, d, steps));
      Check.yes("one less does not", low == -1000000 || !gives(row, low - 1, d, steps));
      Check.yes("one more does not", high == 1000000 || !gives(row, high + 1, d, steps));
    }
  }

  private static boolean gives(int[] row, int wish, int d, int... steps) {
    return Arrays.equals(row, rowOf(row.length, wish, d, steps));
  }

  private static void aClaim() {
    Check.sentence(23, "by one wish all the time, as a claim");
    CoarseSteps x = Bench.over(10);
    Bench.ticks(x, 4, 7, -3);
    // 0 1 0: W below 10, 2 W at least 10, 3 W below 20
    spanIs("wishes that change", x, 3, 5, 6);
  }

  private static void noWishDoes() {
    Check.sentence(23, "REFUSED if no wish does");
    CoarseSteps x = Bench.over(10);
    Bench.ticks(x, 10, -20, 0);
    // 1 0 0: W at least 10, 2 W below 20
    spanIs("the first alone", x, 1, 10, 1000000);
    spanIs("with the second", x, 2, REFUSED, REFUSED);
    spanIs("with all", x, 3, REFUSED, REFUSED);
    x.over(10);
    Bench.ticks(x, 5, 4, 10, 1);
    // 0 0 1 1: 2 W below 10, so W is 4 at most; 4 W at least 20, so W is 5 at least
    spanIs("three of them", x, 3, 4, 4);
    spanIs("no whole wish is between", x, 4, REFUSED, REFUSED);
  }

  private static void leastAndGreatestWish() {
    Check.sentence(23, "all whole wishes W (-1000000 .. 1000000)");
    CoarseSteps x = Bench.over(10000, -100, 100);
    x.run(3, 1000000);
    spanIs("100 100 100", x, 3, 1000000, 1000000);
    x.over(10000);
    x.run(3, -1000000);
    spanIs("-100 -100 -100: 3 W below -1000000", x, 3, -1000000, -333334);
    x = Bench.over(10000, 99, 100);
    x.tick(-1000000);
    spanIs("99, below 100 * 10000", x, 1, -1000000, 999999);
    x = Bench.over(10000, -100, -99);
    x.tick(1000000);
    spanIs("-99, from -99 * 10000 on", x, 1, -990000, 1000000);
  }

  private static void stepsWithNoneBelowOrAbove() {
    Check.sentence(23, "THE STEP FOR: the least, if there is none");
    CoarseSteps x = Bench.over(2, 3, 5);
    x.tick(-7);
    spanIs("3 is given by all below 10", x, 1, -1000000, 9);
    x.over(2);
    x.tick(10);
    spanIs("5 is given by 10 and all above", x, 1, 10, 1000000);
    x.run(255, 10);
    spanIs("5 always", x, 256, 10, 1000000);
  }

  private static void fewestAndMostTicks() {
    Check.sentence(23, "n is 1 .. 256");
    CoarseSteps x = Bench.over(1000);
    x.run(256, 377);
    spanIs("one", x, 1, -1000000, 999);
    spanIs("two", x, 2, -1000000, 499);
    spanIs("all", x, 256, 377, 377);
    x = Bench.over(10000);
    x.run(256, 39);
    // 256 * 39 is 9984: no whole yet.
    spanIs("256 times none", x, 256, -1000000, 39);
    spanIs("255 times none", x, 255, -1000000, 39);
  }

  private static void notOneTo256() {
    Check.sentence(23, "REFUSED if n is not 1 .. 256");
    CoarseSteps x = Bench.over(4);
    x.run(256, 3);
    for (int n : new int[] {0, 257, -1, -256, Integer.MAX_VALUE, Integer.MIN_VALUE}) {
      spanIs("no such n", x, n, REFUSED, REFUSED);
    }
  }

  private static void notSoManyTicks() {
    Check.sentence(23, "REFUSED if there are not n");
    CoarseSteps x = Bench.over(4);
    spanIs("none", x, 1, REFUSED, REFUSED);
    for (int all : new int[] {1, 2, 255}) {
      x.over(4);
      x.run(all, 1);
      spanIs("one more than " + all, x, all + 1, REFUSED, REFUSED);
      Check.yes("as many as there are", x.back(all, 1) != REFUSED);
    }
    x.over(4);
    spanIs("a LOOP anew", x, 1, REFUSED, REFUSED);
  }

  private static void notAllAreKept() {
    Check.sentence(23, "REFUSED if not all TICKS are kept");
    CoarseSteps x = Bench.over(1000);
    x.run(256, 377);
    Check.same("back(256, 0) of 256", 377, x.back(256, 0));
    x.tick(377);
    for (int n : new int[] {1, 2, 255, 256}) {
      spanIs("of 257", x, n, REFUSED, REFUSED);
    }
    x.run(10000, 377);
    spanIs("of many", x, 1, REFUSED, REFUSED);
    x.over(1000);
    x.tick(377);
    spanIs("anew", x, 1, -1000000, 999);
  }

  private static void noFirst() {
    Check.sentence(23, "REFUSED if the LOOP is no FIRST");
    int[][] others = {{1, 0}, {2, 1}, {2, 4}, {3, 2}, {3, 3}, {4, 3}};
    for (int[] other : others) {
      CoarseSteps x = Bench.over(4);
      x.loop(other[0], other[1], 0);
      x.run(4, 1);
      spanIs("KIND " + other[0], x, 4, REFUSED, REFUSED);
      spanIs("KIND " + other[0], x, 1, REFUSED, REFUSED);
      x.loop(0, 0, 0);
      x.run(4, 1);
      spanIs("a FIRST again", x, 4, 1, 1);
    }
  }

  private static void notFromZero() {
    Check.sentence(23, "REFUSED if it did not begin with SUM 0");
    CoarseSteps x = Bench.over(4);
    for (long from : new long[] {1, -1, Bench.MOST_SUM, -Bench.MOST_SUM}) {
      x.over(4);
      x.start(0, from);
      x.run(2, 1);
      spanIs("from " + from, x, 2, REFUSED, REFUSED);
      spanIs("from " + from, x, 1, REFUSED, REFUSED);
    }
    x.over(4);
    x.start(0, 4);
    x.tick(0);
    Check.same("sum(0): 0 now, but it was 4", 0, x.sum(0));
    spanIs("from 4", x, 1, REFUSED, REFUSED);
    x.over(4);
    x.run(4, 1);
    spanIs("anew from 0", x, 4, 1, 1);
    x.over(4);
    x.start(0, 1);
    x.start(0, 0);
    x.run(4, 1);
    spanIs("started with 0 after all", x, 4, 1, 1);
  }

  private static void anotherWhat() {
    Check.sentence(23, "REFUSED for another what");
    CoarseSteps x = Bench.over(4);
    x.run(8, 3);
    for (int what : new int[] {-1, 2, Integer.MAX_VALUE, Integer.MIN_VALUE}) {
      Check.same("back(8, " + what + ")", REFUSED, x.back(8, what));
    }
  }

  private static void nothingChanges() {
    Check.sentence(23, "nothing is changed by it");
    Bench.unchangedBy(x -> {
      x.back(1, 0);
      x.back(3, 1);
      x.back(9, 0);
    });
  }
}

import java.util.HashSet;
import java.util.Set;

/** Promises 23 and 24: wishes read back from STEPS, and how many rows of STEPS there are. */
public final class ClaimTest {
  private static final int REFUSED = CoarseSteps.REFUSED;
  private static final int NONE = CoarseSteps.NONE;

  public static void main(String[] args) {
    promise23Back();
    promise23BackOfWishesThatChange();
    promise23BackNeedsAFirstFromZero();
    promise23BackNeedsAllTicks();
    promise23BackAtTheEndsOfWishes();
    promise24RangeIsCounted();
    promise24RangeNotAsked();
    Check.end();
  }

  private static CoarseSteps bench(int d, int... steps) {
    CoarseSteps x = new CoarseSteps();
    x.over(d);
    int[] s = java.util.Arrays.copyOf(steps, 8);
    x.steps(steps.length, s[0], s[1], s[2], s[3], s[4], s[5], s[6], s[7]);
    return x;
  }

  private static int[] rowOf(int n, long wish, int d, int... steps) {
    int[] row = new int[n];
    long sum = 0;
    for (int k = 0; k < n; k++) {
      sum += wish;
      int c = steps[0];
      for (int step : steps) {
        if ((long) step * d <= sum) {
          c = step;
        }
      }
      row[k] = c;
      sum -= (long) c * d;
    }
    return row;
  }

  private static void promise23Back() {
    Check.heading("promise 23");
    CoarseSteps x = bench(4, 0, 1);
    x.run(8, 3);
    // 0 1 1 1 0 1 1 1
    Check.same("back(1, 0)", -1000000, x.back(1, 0));
    Check.same("back(1, 1): 0 is given by less than D", 3, x.back(1, 1));
    Check.same("back(2, 0): 2 W at least 4", 2, x.back(2, 0));
    Check.same("back(2, 1)", 3, x.back(2, 1));
    Check.same("back(3, 0): 3 W at least 8", 3, x.back(3, 0));
    Check.same("back(8, 0)", 3, x.back(8, 0));
    Check.same("back(8, 1)", 3, x.back(8, 1));
    int[] wrong = {0, -1, 9, 257, Integer.MAX_VALUE, Integer.MIN_VALUE};
    for (int n : wrong) {
      Check.same("back(" + n + ", 0)", REFUSED, x.back(n, 0));
      Check.same("back(" + n + ", 1)", REFUSED, x.back(n, 1));
    }
    Check.same("back(8, 2)", REFUSED, x.back(8, 2));
    Check.same("back(8, -1)", REFUSED, x.back(8, -1));
    x = bench(100, -3, -1, 0, 2, 5);
    x.run(7, -55);
    backIsTheSpan(x, 7, 100, -3, -1, 0, 2, 5);
    x = bench(9973, -3, -1, 0, 2, 5);
    x.run(256, 12345);
    backIsTheSpan(x, 256, 9973, -3, -1, 0, 2, 5);
  }

  private static void backIsTheSpan(CoarseSteps x, int n, int d, int... steps) {
    int[] given = new int[n];
    for (int k = 0; k < n; k++) {
      given[k] = x.was(n - 1 - k, 0);
    }
    for (int m = 1; m <= n; m++) {
      int[] row = java.util.Arrays.copyOf(given, m);
      int low = x.back(m, 0);
      int high = x.back(m, 1);
      Check.yes("back(" + m + "): LOW gives it", same(row, rowOf(m, low, d, steps)));
      Check.yes("back(" + m + "): HIGH gives it", same(row, rowOf(m, high, d, steps)));
      boolean isLeast = low == -1000000 || !same(row, rowOf(m, low - 1, d, steps));
      boolean isMost = high == 1000000 || !same(row, rowOf(m, high + 1, d, steps));
      Check.yes("back(" + m + "): less than LOW does not", isLeast);
      Check.yes("back(" + m + "): more than HIGH does not", isMost);
    }
  }

  private static boolean same(int[] a, int[] b) {
    return java.util.Arrays.equals(a, b);
  }

  private static void promise23BackOfWishesThatChange() {
    Check.heading("promise 23, a claim");
    CoarseSteps x = bench(10, 0, 1);
    x.tick(4);
    x.tick(7);
    x.tick(-3);
    // 0 1 0: W below 10, 2 W at least 10, 3 W below 20
    Check.same("back(3, 0)", 5, x.back(3, 0));
    Check.same("back(3, 1)", 6, x.back(3, 1));
    x.over(10);
    x.tick(10);
    x.tick(-20);
    x.tick(0);
    // 1 0 0: W at least 10, 2 W below 20
    Check.same("back(1, 0)", 10, x.back(1, 0));
    Check.same("back(1, 1)", 1000000, x.back(1, 1));
    Check.same("back(2, 0): no wish does", REFUSED, x.back(2, 0));
    Check.same("back(2, 1): no wish does", REFUSED, x.back(2, 1));
    Check.same("back(3, 1): no wish does", REFUSED, x.back(3, 1));
  }

  private static void promise23BackNeedsAFirstFromZero() {
    Check.heading("promise 23, a FIRST from 0");
    CoarseSteps x = bench(4, 0, 1);
    x.start(0, 1);
    x.run(2, 1);
    Check.same("began with 1, though 0 0 can be", REFUSED, x.back(2, 1));
    x.over(4);
    x.run(2, 1);
    Check.same("anew from 0", 1, x.back(2, 1));
    x.over(4);
    x.start(0, 1);
    x.start(0, 0);
    x.run(4, 1);
    Check.same("began with 0 after all", 1, x.back(4, 0));
    x.over(4);
    Check.same("no TICKS", REFUSED, x.back(1, 0));
    int[][] others = {{1, 0}, {2, 1}, {3, 2}, {4, 3}};
    for (int[] other : others) {
      x.loop(other[0], other[1], 0);
      x.run(4, 1);
      Check.same("KIND " + other[0], REFUSED, x.back(4, 0));
      Check.same("KIND " + other[0], REFUSED, x.back(4, 1));
    }
    x.loop(0, 0, 0);
    x.run(4, 1);
    Check.same("a FIRST again", 1, x.back(4, 1));
  }

  private static void promise23BackNeedsAllTicks() {
    Check.heading("promise 23, all TICKS");
    CoarseSteps x = bench(1000, 0, 1);
    x.run(255, 377);
    Check.same("back(256, 0) of 255", REFUSED, x.back(256, 0));
    x.tick(377);
    Check.same("back(256, 0)", 377, x.back(256, 0));
    Check.same("back(256, 1)", 377, x.back(256, 1));
    Check.same("back(1, 1)", 999, x.back(1, 1));
    x.tick(377);
    Check.same("back(256, 0) of 257", REFUSED, x.back(256, 0));
    Check.same("back(1, 0) of 257", REFUSED, x.back(1, 0));
  }

  private static void promise23BackAtTheEndsOfWishes() {
    Check.heading("promise 23, ends");
    CoarseSteps x = bench(10000, -100, 100);
    x.run(3, 1000000);
    Check.same("LOW", 1000000, x.back(3, 0));
    Check.same("HIGH", 1000000, x.back(3, 1));
    x.over(10000);
    x.run(3, -1000000);
    Check.same("LOW", -1000000, x.back(3, 0));
    Check.same("HIGH: -100 -100 -100", -333334, x.back(3, 1));
  }

  private static void promise24RangeIsCounted() {
    Check.heading("promise 24");
    int[][] scales = {{0, 1}, {-1, 0, 1, 2}, {-100, 3, 7}, {5, 6}, {-9, -4}};
    int[] overs = {1, 2, 7, 40, 10000};
    int[] lengths = {1, 2, 5, 64};
    int[][] spans = {{0, 0}, {-30, 30}, {-1000, 1000}, {4000, 6000}, {-1000000, -999000}};
    for (int[] steps : scales) {
      for (int d : overs) {
        CoarseSteps x = bench(d, steps);
        x.loop(3, 2, 0);
        x.run(3, 11);
        for (int n : lengths) {
          for (int[] span : spans) {
            int due = rowsOf(n, span[0], span[1], d, steps);
            String call = "range(" + n + ", " + span[0] + ", " + span[1] + ") over " + d;
            Check.same(call, due, x.range(n, span[0], span[1]));
          }
        }
        Check.same("about(5): nothing changes", 3, x.about(5));
      }
    }
  }

  private static int rowsOf(int n, int w0, int w1, int d, int... steps) {
    Set<String> rows = new HashSet<>();
    for (int w = w0; w <= w1; w++) {
      rows.add(java.util.Arrays.toString(rowOf(n, w, d, steps)));
    }
    return rows.size();
  }

  private static void promise24RangeNotAsked() {
    Check.heading("promise 24, not asked");
    CoarseSteps x = bench(10000, 0, 1);
    Check.same("2000 apart", 1, x.range(1, 0, 2000));
    Check.same("2001 apart", NONE, x.range(1, 0, 2001));
    Check.same("at the upper end", 1, x.range(64, 998000, 1000000));
    Check.same("at the lower end", 1, x.range(64, -1000000, -998000));
    Check.same("beyond it", NONE, x.range(64, 999000, 1000001));
    Check.same("below it", NONE, x.range(64, -1000001, -999000));
    Check.same("the wrong way", NONE, x.range(64, 1, 0));
    Check.same("n 0", NONE, x.range(0, 0, 1));
    Check.same("n -1", NONE, x.range(-1, 0, 1));
    Check.same("n 65", NONE, x.range(65, 0, 1));
    Check.same("extremes", NONE, x.range(1, Integer.MIN_VALUE, Integer.MAX_VALUE));
    Check.same("extremes", NONE, x.range(1, Integer.MAX_VALUE, Integer.MIN_VALUE));
    Check.same("extremes", NONE, x.range(Integer.MAX_VALUE, 0, 0));
  }
}

import java.util.Arrays;
import java.util.HashSet;
import java.util.Set;

/** Promise 24: range. */
public final class Promise24Test {
  private static final int NONE = Bench.NONE;

  public static void main(String[] args) {
    differentRows();
    fewestAndMost();
    tooFewAndTooMany();
    at2000Apart();
    tooFarApart();
    oneWishAlone();
    theWrongWay();
    leastAndGreatestWish();
    noSuchWishes();
    stepsAsTheyAre();
    whateverLoopThereIs();
    nothingChanges();
    Check.end();
  }

  private static int rowsOf(int n, int w0, int w1, int d, int... steps) {
    Set<String> rows = new HashSet<>();
    for (int w = w0; w <= w1; w++) {
      int[] row = new int[n];
      long sum = 0;
      for (int k = 0; k < n; k++) {
        sum += w;
        row[k] = steps[0];
        for (int step : steps) {
          row[k] = (long) step * d <= sum ? step : row[k];
        }
        sum -= (long) row[k] * d;
      }
      rows.add(Arrays.toString(row));
    }
    return rows.size();
  }

  private static void rangeIs(CoarseSteps x, int n, int w0, int w1, int d, int... steps) {
    String call = "range(" + n + ", " + w0 + ", " + w1 + ") over " + d;
    Check.same(call, rowsOf(n, w0, w1, d, steps), x.range(n, w0, w1));
  }

  private static void differentRows() {
    Check.sentence(24, "how many different rows of n GIVEN");
    CoarseSteps x = Bench.over(4);
    Check.same("range(1, 0, 4)", 2, x.range(1, 0, 4));
    Check.same("range(2, 0, 4): 0 0, 0 1, 1 1", 3, x.range(2, 0, 4));
    Check.same("range(4, 0, 4)", 5, x.range(4, 0, 4));
    Check.same("range(4, -5, 9): none more", 5, x.range(4, -5, 9));
    for (int n : new int[] {1, 2, 5, 17, 64}) {
      rangeIs(Bench.over(997), n, -1000, 1000, 997, 0, 1);
      rangeIs(Bench.over(97, -9, -4, 0, 3), n, -1000, 1000, 97, -9, -4, 0, 3);
    }
  }

  private static void fewestAndMost() {
    Check.sentence(24, "RANGE of n (1 .. 64)");
    rangeIs(Bench.over(60), 1, 0, 60, 60, 0, 1);
    rangeIs(Bench.over(60), 63, 0, 60, 60, 0, 1);
    rangeIs(Bench.over(60), 64, 0, 60, 60, 0, 1);
    // 64 * W reaches D with the last STEP alone, by 156 of 10000 not yet.
    Check.same("range(64, 156, 157)", 2, Bench.over(10000).range(64, 156, 157));
    Check.same("range(63, 157, 158)", 1, Bench.over(10000).range(63, 157, 158));
  }

  private static void tooFewAndTooMany() {
    Check.sentence(24, "RANGE of n (1 .. 64); NONE if it can't be asked");
    CoarseSteps x = Bench.over(60);
    for (int n : new int[] {0, 65, -1, -64, Integer.MAX_VALUE, Integer.MIN_VALUE}) {
      Check.same("range(" + n + ", 0, 1)", NONE, x.range(n, 0, 1));
    }
  }

  private static void at2000Apart() {
    Check.sentence(24, "at most 2000 apart");
    CoarseSteps x = Bench.over(1, -100, -50, 0, 10, 20, 50, 90, 100);
    rangeIs(x, 1, -1000, 1000, 1, -100, -50, 0, 10, 20, 50, 90, 100);
    rangeIs(x, 64, -1000, 1000, 1, -100, -50, 0, 10, 20, 50, 90, 100);
    x = Bench.over(2000);
    Check.same("range(1, 0, 2000)", 2, x.range(1, 0, 2000));
    Check.same("range(1, 0, 1999)", 1, x.range(1, 0, 1999));
    rangeIs(x, 64, 0, 2000, 2000, 0, 1);
    x = Bench.over(10000, 0, 1, 2, 3);
    rangeIs(x, 64, 9000, 11000, 10000, 0, 1, 2, 3);
  }

  private static void tooFarApart() {
    Check.sentence(24, "at most 2000 apart; NONE if it can't be asked");
    CoarseSteps x = Bench.over(2000);
    Check.same("range(1, 0, 2001)", NONE, x.range(1, 0, 2001));
    Check.same("range(1, -1000, 1001)", NONE, x.range(1, -1000, 1001));
    Check.same("range(1, -1000000, 1000000)", NONE, x.range(1, -1000000, 1000000));
  }

  private static void oneWishAlone() {
    Check.sentence(24, "for wishes from W0 to W1: one of them");
    CoarseSteps x = Bench.over(7);
    for (int w : new int[] {0, 3, -8, 1000000, -1000000}) {
      Check.same("range(64, " + w + ", " + w + ")", 1, x.range(64, w, w));
    }
  }

  private static void theWrongWay() {
    Check.sentence(24, "from W0 to W1; NONE if it can't be asked");
    CoarseSteps x = Bench.over(7);
    Check.same("range(1, 1, 0)", NONE, x.range(1, 1, 0));
    Check.same("range(1, 1000, -1000)", NONE, x.range(1, 1000, -1000));
    Check.same("range(1, 1000000, -1000000)", NONE, x.range(1, 1000000, -1000000));
  }

  private static void leastAndGreatestWish() {
    Check.sentence(24, "wishes (-1000000 .. 1000000)");
    CoarseSteps x = Bench.over(10000, 99, 100);
    Check.same("range(1, 999999, 1000000)", 2, x.range(1, 999999, 1000000));
    Check.same("range(1, 998000, 1000000)", 2, x.range(1, 998000, 1000000));
    x = Bench.over(10000, -100, 100);
    Check.same("range(64, -1000000, -998000)", rowsOf(64, -1000000, -998000, 10000, -100, 100),
        x.range(64, -1000000, -998000));
    Check.same("range(1, -1000000, -999999)", 1, x.range(1, -1000000, -999999));
  }

  private static void noSuchWishes() {
    Check.sentence(24, "NONE if it can't be asked: no such wishes");
    CoarseSteps x = Bench.over(7);
    for (int w : Bench.beyondWishes()) {
      Check.same("range(1, " + w + ", " + w + ")", NONE, x.range(1, w, w));
      Check.same("range(1, " + w + ", 0)", NONE, x.range(1, w, 0));
      Check.same("range(1, 0, " + w + ")", NONE, x.range(1, 0, w));
    }
    Check.same("range(1, 999000, 1000001)", NONE, x.range(1, 999000, 1000001));
    Check.same("range(1, -1000001, -999000)", NONE, x.range(1, -1000001, -999000));
    // These differ by 1, if what is beyond an int is lost.
    int least = Integer.MIN_VALUE;
    Check.same("range(1, most, least)", NONE, x.range(1, Integer.MAX_VALUE, least));
    Check.same("range(1, least, most)", NONE, x.range(1, least, Integer.MAX_VALUE));
  }

  private static void stepsAsTheyAre() {
    Check.sentence(24, "with the STEPS as they are");
    int[][] scales = {
      {0, 1}, {-1, 0, 1, 2}, {-100, 3, 7}, {5, 6}, {-9, -4}, {-7, -5, -3, -1, 2, 4, 6, 8},
    };
    int[][] spans = {{0, 0}, {-30, 30}, {-700, 700}, {4000, 6000}, {-1000000, -999000}};
    for (int[] steps : scales) {
      for (int d : new int[] {1, 2, 7, 40, 10000}) {
        CoarseSteps x = Bench.over(d, steps);
        for (int n : new int[] {1, 2, 5, 64}) {
          for (int[] span : spans) {
            rangeIs(x, n, span[0], span[1], d, steps);
          }
        }
      }
    }
  }

  private static void whateverLoopThereIs() {
    Check.sentence(24, "a FIRST that begins with SUM 0");
    for (int[] kind : Bench.kinds()) {
      CoarseSteps x = Bench.busy(kind[0], kind[1], kind[2]);
      rangeIs(x, 9, -50, 50, 4, -1, 0, 1, 2, 5);
    }
    CoarseSteps x = Bench.firstFrom(10, 7);
    rangeIs(x, 3, 0, 10, 10, 0, 1);
    x.run(3, 8);
    rangeIs(x, 3, 0, 10, 10, 0, 1);
  }

  private static void nothingChanges() {
    Check.sentence(24, "nothing is changed by it");
    Bench.unchangedBy(x -> {
      x.range(64, -1000, 1000);
      x.range(65, 0, 1);
      x.range(1, 1, 0);
    });
  }
}

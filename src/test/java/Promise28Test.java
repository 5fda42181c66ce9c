/** Promise 28: step. */
public final class Promise28Test {
  private static final int REFUSED = Bench.REFUSED;

  public static void main(String[] args) {
    zeroAndOneAtFirst();
    theKth();
    theMost();
    noneSuch();
    fewerThanBefore();
    leastAndGreatest();
    nothingChanges();
    Check.end();
  }

  private static void zeroAndOneAtFirst() {
    Check.sentence(28, "0 and 1 at first");
    CoarseSteps x = new CoarseSteps();
    Check.same("step(0)", 0, x.step(0));
    Check.same("step(1)", 1, x.step(1));
    Check.same("step(2)", REFUSED, x.step(2));
  }

  private static void theKth() {
    Check.sentence(28, "The k-th STEP");
    CoarseSteps x = Bench.over(9, -4, -1, 2);
    Check.same("step(0)", -4, x.step(0));
    Check.same("step(1)", -1, x.step(1));
    Check.same("step(2)", 2, x.step(2));
  }

  private static void theMost() {
    Check.sentence(28, "STEPS are 2 to 8");
    int[] all = {-9, -4, -1, 0, 2, 3, 7, 20};
    CoarseSteps x = Bench.over(1, all);
    for (int k = 0; k < 8; k++) {
      Check.same("step(" + k + ")", all[k], x.step(k));
    }
    Check.same("step(8)", REFUSED, x.step(8));
  }

  private static void noneSuch() {
    Check.sentence(28, "REFUSED if there is none such");
    int[] all = {-9, -4, -1, 0, 2, 3, 7, 20};
    for (int n = 2; n <= 8; n++) {
      CoarseSteps x = Bench.over(1, java.util.Arrays.copyOf(all, n));
      for (int k : new int[] {-1, n, 8, 9, Integer.MAX_VALUE, Integer.MIN_VALUE}) {
        Check.same("step(" + k + ") of " + n, REFUSED, x.step(k));
      }
    }
  }

  private static void fewerThanBefore() {
    Check.sentence(28, "REFUSED if there is none such: not one that there was");
    CoarseSteps x = Bench.over(1, 1, 2, 3, 4, 5, 6, 7, 8);
    Bench.tell(x, 1, 2, 3);
    for (int k = 3; k <= 8; k++) {
      Check.same("step(" + k + ")", REFUSED, x.step(k));
    }
  }

  private static void leastAndGreatest() {
    Check.sentence(28, "-100 .. 100");
    CoarseSteps x = Bench.over(10000, -100, 100);
    Check.same("step(0)", -100, x.step(0));
    Check.same("step(1)", 100, x.step(1));
  }

  private static void nothingChanges() {
    Check.sentence(28, "nothing is changed by it");
    Bench.unchangedBy(x -> {
      x.step(0);
      x.step(4);
      x.step(5);
      x.step(8);
      x.step(-1);
    });
  }
}

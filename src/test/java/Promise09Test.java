/** Promise 9: sum. */
public final class Promise09Test {
  public static void main(String[] args) {
    eachSumThereIs();
    noneSuch();
    sumsOfAnEarlierLoop();
    leastAndGreatest();
    nothingChanges();
    Check.end();
  }

  private static void eachSumThereIs() {
    Check.sentence(9, "A SUM");
    for (int[] kind : Bench.kinds()) {
      CoarseSteps x = Bench.loop(kind[0], kind[1], kind[2]);
      int sums = x.about(3);
      for (int k = 0; k < sums; k++) {
        x.start(k, -3L - k);
      }
      for (int k = 0; k < sums; k++) {
        Check.same("sum(" + k + ") of KIND " + kind[0], -3 - k, x.sum(k));
      }
    }
    CoarseSteps x = new CoarseSteps();
    x.tick(-8);
    Check.same("sum(0) behind a TICK", -8, x.sum(0));
  }

  private static void noneSuch() {
    Check.sentence(9, "0 if there is none such");
    for (int[] kind : Bench.kinds()) {
      CoarseSteps x = Bench.loop(kind[0], kind[1], kind[2]);
      int sums = x.about(3);
      for (int k = 0; k < sums; k++) {
        x.start(k, 9);
      }
      for (int k : new int[] {-1, sums, 4, 5, Integer.MAX_VALUE, Integer.MIN_VALUE}) {
        Check.same("sum(" + k + ") of KIND " + kind[0], 0, x.sum(k));
      }
    }
  }

  private static void sumsOfAnEarlierLoop() {
    Check.sentence(9, "0 if there is none such: not what another LOOP had");
    CoarseSteps x = Bench.loop(2, 4, 0);
    for (int k = 0; k < 4; k++) {
      x.start(k, 9);
    }
    x.loop(1, 0, 0);
    for (int k = 0; k < 4; k++) {
      Check.same("sum(" + k + ")", 0, x.sum(k));
    }
  }

  private static void leastAndGreatest() {
    Check.sentence(9, "a long, up to the bounds of a TICK");
    CoarseSteps x = Bench.loop(1, 0, 0);
    x.start(0, Bench.MOST_SUM);
    x.start(1, -Bench.MOST_SUM);
    Check.same("sum(0)", Bench.MOST_SUM, x.sum(0));
    Check.same("sum(1)", -Bench.MOST_SUM, x.sum(1));
  }

  private static void nothingChanges() {
    Check.sentence(9, "nothing is changed by it");
    Bench.unchangedBy(x -> {
      x.sum(0);
      x.sum(3);
      x.sum(-1);
    });
  }
}

/** Promise 11: behind. */
public final class Promise11Test {
  public static void main(String[] args) {
    beforeAll();
    behindTheLatest();
    theFirstSum();
    theLast256AreKept();
    asManyAsThereWere();
    noneSuch();
    refusedTicksAreNotKept();
    leastAndGreatest();
    nothingChanges();
    Check.end();
  }

  private static void beforeAll() {
    Check.sentence(11, "0 if there is none such kept: no TICKS were");
    CoarseSteps x = new CoarseSteps();
    Check.same("behind(0)", 0, x.behind(0));
    x.start(0, 5);
    Check.same("behind(0): a start is no TICK", 0, x.behind(0));
    x.tick(0);
    x.over(1);
    Check.same("behind(0) of a LOOP anew", 0, x.behind(0));
  }

  private static void behindTheLatest() {
    Check.sentence(11, "behind the k-th latest TICK");
    CoarseSteps x = Bench.over(1000);
    for (int t = 1; t <= 20; t++) {
      x.tick(t);
      Check.same("behind(0) is the SUM now", x.sum(0), x.behind(0));
    }
    for (int k = 0; k < 20; k++) {
      Check.same("behind(" + k + ")", (20 - k) * (21 - k) / 2, x.behind(k));
    }
  }

  private static void theFirstSum() {
    Check.sentence(11, "The first SUM");
    CoarseSteps x = Bench.over(1000);
    x.loop(1, 0, 0);
    Bench.ticks(x, 3, 4);
    Check.same("behind(0) of TWO", 10, x.behind(0));
    Check.same("behind(1) of TWO", 3, x.behind(1));
    x.loop(3, 3, 0);
    Bench.ticks(x, 3, 4);
    Check.same("behind(0) of a ROW", 7, x.behind(0));
    x.loop(2, 4, 0);
    x.table(0, 4, 1);
    x.table(1, 4, 2);
    x.table(3, 4, 3);
    x.tick(5);
    Check.same("behind(0) of TABLES", 5, x.behind(0));
  }

  private static void theLast256AreKept() {
    Check.sentence(11, "The last 256 TICKS are kept: the first SUM behind them");
    for (int all : new int[] {256, 257, 300, 511, 512, 513}) {
      CoarseSteps x = Bench.over(1000);
      x.run(all, 1);
      for (int k = 0; k < 256; k++) {
        Check.same("behind(" + k + ") of " + all, all - k, x.behind(k));
      }
      Check.same("behind(256) of " + all, 0, x.behind(256));
    }
  }

  private static void asManyAsThereWere() {
    Check.sentence(11, "0 if there is none such kept: beyond as many as there were");
    for (int all : new int[] {1, 2, 254, 255, 256}) {
      CoarseSteps x = Bench.firstFrom(1000, 500);
      x.run(all, 1);
      Check.same("behind(" + (all - 1) + ")", 501, x.behind(all - 1));
      Check.same("behind(" + all + ")", 0, x.behind(all));
    }
  }

  private static void noneSuch() {
    Check.sentence(11, "0 if there is none such kept: no such k");
    CoarseSteps x = Bench.over(1000);
    x.run(300, 1);
    for (int k : new int[] {-1, 256, 299, 300, -256, Integer.MAX_VALUE, Integer.MIN_VALUE}) {
      Check.same("behind(" + k + ")", 0, x.behind(k));
    }
  }

  private static void refusedTicksAreNotKept() {
    Check.sentence(11, "a TICK that is not done is not kept");
    CoarseSteps x = Bench.firstFrom(1, Bench.MOST_SUM - 7);
    x.tick(1);
    x.tick(1000);
    Check.same("behind(0)", Bench.MOST_SUM - 7, x.behind(0));
    Check.same("behind(1)", 0, x.behind(1));
  }

  private static void leastAndGreatest() {
    Check.sentence(11, "a long, up to the bounds of a TICK");
    CoarseSteps x = Bench.firstFrom(1, Bench.MOST_SUM);
    x.tick(1);
    Check.same("behind(0)", Bench.MOST_SUM, x.behind(0));
    x = Bench.firstFrom(1, -Bench.MOST_SUM);
    x.tick(0);
    Check.same("behind(0)", -Bench.MOST_SUM, x.behind(0));
  }

  private static void nothingChanges() {
    Check.sentence(11, "nothing is changed by it");
    Bench.unchangedBy(x -> {
      x.behind(0);
      x.behind(3);
      x.behind(256);
    });
  }
}

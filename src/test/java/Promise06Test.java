/** Promise 6: start. */
public final class Promise06Test {
  private static final long MOST = Bench.MOST_SUM;

  public static void main(String[] args) {
    leastAndGreatest();
    tooSmallAndTooGreat();
    sumsThereAre();
    sumsThereAreNot();
    notBehindTicks();
    refusedTicksWereNone();
    refusedDoesNothing();
    aTickGoesOnFromIt();
    againBeforeTicks();
    nothingElseChanges();
    Check.end();
  }

  private static void leastAndGreatest() {
    Check.sentence(6, "within the bounds of a TICK");
    for (int[] kind : Bench.kinds()) {
      CoarseSteps x = Bench.loop(kind[0], kind[1], kind[2]);
      for (int k = 0; k < x.about(3); k++) {
        for (long v : new long[] {MOST, -MOST, MOST - 1, 1 - MOST, 0}) {
          Check.yes("start(" + k + ", " + v + ")", x.start(k, v));
          Check.same("sum(" + k + ")", v, x.sum(k));
        }
      }
    }
  }

  private static void tooSmallAndTooGreat() {
    Check.sentence(6, "false: it can't be");
    for (int[] kind : Bench.kinds()) {
      CoarseSteps x = Bench.loop(kind[0], kind[1], kind[2]);
      for (int k = 0; k < x.about(3); k++) {
        x.start(k, 5);
        for (long v : new long[] {MOST + 1, -MOST - 1, Long.MAX_VALUE, Long.MIN_VALUE}) {
          Check.no("start(" + k + ", " + v + ")", x.start(k, v));
          Check.same("sum(" + k + ")", 5, x.sum(k));
        }
      }
    }
  }

  private static void sumsThereAre() {
    Check.sentence(6, "A SUM is this number");
    for (int[] kind : Bench.kinds()) {
      CoarseSteps x = Bench.loop(kind[0], kind[1], kind[2]);
      int sums = x.about(3);
      for (int k = 0; k < sums; k++) {
        Check.yes("start(" + k + ", ..)", x.start(k, 10L + k));
      }
      for (int k = 0; k < sums; k++) {
        Check.same("sum(" + k + ") of KIND " + kind[0], 10 + k, x.sum(k));
      }
    }
  }

  private static void sumsThereAreNot() {
    Check.sentence(6, "false: there is none such");
    for (int[] kind : Bench.kinds()) {
      CoarseSteps x = Bench.loop(kind[0], kind[1], kind[2]);
      int sums = x.about(3);
      for (int k : new int[] {-1, sums, 4, Integer.MAX_VALUE, Integer.MIN_VALUE}) {
        Check.no("start(" + k + ", 1) of KIND " + kind[0], x.start(k, 1));
      }
      for (int k = 0; k < 4; k++) {
        Check.same("sum(" + k + ")", 0, x.sum(k));
      }
    }
  }

  private static void notBehindTicks() {
    Check.sentence(6, "false: there were TICKS");
    for (int[] kind : Bench.kinds()) {
      CoarseSteps x = Bench.loop(kind[0], kind[1], kind[2]);
      x.tick(3);
      long sum = x.sum(0);
      Check.no("start(0, 1) behind one TICK", x.start(0, 1));
      Check.same("sum(0)", sum, x.sum(0));
      x.run(300, 0);
      Check.no("start(0, 1) behind 301 TICKS", x.start(0, 1));
      x.over(1);
      Check.yes("start(0, 1) of a LOOP anew", x.start(0, 1));
    }
  }

  private static void refusedTicksWereNone() {
    Check.sentence(6, "no TICKS were");
    CoarseSteps x = new CoarseSteps();
    x.tick(1000001);
    Check.yes("start(0, MOST) behind what was no wish", x.start(0, MOST));
    x.tick(2);
    Check.yes("start(0, 3) behind a TICK that was not done", x.start(0, 3));
    x.run(0, 1);
    Check.yes("start(0, 4) behind a run of none", x.start(0, 4));
    x.ring(1);
    x.leaves(1, 5);
    x.kept(0, 1);
    Check.yes("start(0, 5) behind what changes nothing", x.start(0, 5));
    Check.same("sum(0)", 5, x.sum(0));
  }

  private static void refusedDoesNothing() {
    Check.sentence(6, "doing nothing");
    Bench.unchangedBy(x -> {
      x.start(0, 0);
      x.start(0, 7);
      x.start(-1, 7);
      x.start(x.about(3), 7);
    });
    CoarseSteps x = new CoarseSteps();
    x.start(0, MOST + 1);
    x.start(1, 5);
    x.tick(1);
    x.start(0, 5);
    Check.same("back(1, 0): it began with SUM 0 yet", 1, x.back(1, 0));
  }

  private static void aTickGoesOnFromIt() {
    Check.sentence(6, "A SUM is this number, and TICKS begin with it");
    CoarseSteps x = Bench.over(10, 0, 1, 2);
    x.start(0, 17);
    Check.same("tick(4)", 2, x.tick(4));
    Check.same("sum(0)", 1, x.sum(0));
    Check.same("about(5): it was no TICK", 1, x.about(5));
  }

  private static void againBeforeTicks() {
    Check.sentence(6, "the latest start of a SUM counts");
    CoarseSteps x = new CoarseSteps();
    x.start(0, 5);
    x.start(0, -8);
    Check.same("sum(0)", -8, x.sum(0));
  }

  private static void nothingElseChanges() {
    Check.sentence(6, "A SUM is this number: nothing else changes");
    Bench.unchangedAtFirstBy(Promise06Test::startAndTakeBack);
    Bench.sameBehind(x -> x.over(4), x -> {
      x.over(4);
      startAndTakeBack(x);
    });
  }

  private static void startAndTakeBack(CoarseSteps x) {
    for (int k = 0; k < x.about(3); k++) {
      x.start(k, 7);
      x.start(k, -9);
      x.start(k, 0);
    }
  }
}

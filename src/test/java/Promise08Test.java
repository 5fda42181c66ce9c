/** Promise 8: run. */
public final class Promise08Test {
  private static final long MOST = Bench.MOST_SUM;

  public static void main(String[] args) {
    noneAtAll();
    theMost();
    tooFewAndTooMany();
    anotherWish();
    leastAndGreatestWish();
    untilOneIsRefused();
    theFirstIsRefused();
    asManyTicks();
    Check.end();
  }

  private static void noneAtAll() {
    Check.sentence(8, "n TICKS (0 .. 10000): none");
    Bench.unchangedBy(x -> {
      Check.same("run(0, 3)", 0, x.run(0, 3));
    });
  }

  private static void theMost() {
    Check.sentence(8, "n TICKS (0 .. 10000): the most");
    CoarseSteps x = Bench.over(3);
    Check.same("run(10000, 1)", 10000, x.run(10000, 1));
    Check.same("about(5)", 10000, x.about(5));
    Check.same("about(6)", 256, x.about(6));
    Check.same("sum(0)", 1, x.sum(0));
    for (int k = 1; k <= 100; k++) {
      Check.same("run(10000, 0), again", 10000, x.run(10000, 0));
    }
    Check.same("about(5)", 1010000, x.about(5));
  }

  private static void tooFewAndTooMany() {
    Check.sentence(8, "NONE, doing nothing, for another n");
    Bench.unchangedBy(x -> {
      for (int n : new int[] {-1, 10001, Integer.MAX_VALUE, Integer.MIN_VALUE}) {
        Check.same("run(" + n + ", 1)", Bench.NONE, x.run(n, 1));
      }
    });
  }

  private static void anotherWish() {
    Check.sentence(8, "NONE, doing nothing, for another wish");
    Bench.unchangedBy(x -> {
      for (int w : Bench.beyondWishes()) {
        Check.same("run(2, " + w + ")", Bench.NONE, x.run(2, w));
        Check.same("run(0, " + w + ")", Bench.NONE, x.run(0, w));
      }
    });
  }

  private static void leastAndGreatestWish() {
    Check.sentence(8, "by one wish (-1000000 .. 1000000)");
    CoarseSteps x = new CoarseSteps();
    Check.same("run(3, 1000000)", 3, x.run(3, 1000000));
    Check.same("sum(0)", 3 * 999999, x.sum(0));
    Check.same("run(3, -1000000)", 3, x.run(3, -1000000));
    Check.same("was(0, 1)", -1000000, x.was(0, 1));
  }

  private static void untilOneIsRefused() {
    Check.sentence(8, "until one is REFUSED: how many were done");
    CoarseSteps x = Bench.firstFrom(1, MOST - 5);
    Check.same("run(100, 2)", 5, x.run(100, 2));
    Check.same("sum(0)", MOST, x.sum(0));
    Check.same("about(5)", 5, x.about(5));
    x = Bench.firstFrom(1, 3 - MOST);
    Check.same("run(10000, -1)", 3, x.run(10000, -1));
    Check.same("sum(0)", -MOST, x.sum(0));
    x = Bench.firstFrom(1, MOST - 5);
    Check.same("run(5, 2): all of them", 5, x.run(5, 2));
    x = Bench.loop(3, 2, 0);
    x.start(1, MOST - 5);
    Check.same("run(100, 2) of a ROW: 1 more of the first with each", 3, x.run(100, 2));
    Check.same("sum(0)", 3, x.sum(0));
    Check.same("sum(1)", MOST - 5 + 0 + 1 + 2, x.sum(1));
  }

  private static void theFirstIsRefused() {
    Check.sentence(8, "how many were done: none");
    CoarseSteps x = Bench.firstFrom(1, MOST);
    Check.same("run(10000, 2)", 0, x.run(10000, 2));
    Check.same("sum(0)", MOST, x.sum(0));
    Check.same("about(5)", 0, x.about(5));
    Check.same("was(0, 0)", Bench.REFUSED, x.was(0, 0));
  }

  private static void asManyTicks() {
    Check.sentence(8, "n TICKS by one wish");
    Bench.sameBehind(x -> Bench.ticks(x, 2, 2, 2), x -> Check.same("run(3, 2)", 3, x.run(3, 2)));
  }
}

/** Promise 15: leaves. */
public final class Promise15Test {
  private static final long MOST = Bench.MOST_SUM;

  public static void main(String[] args) {
    aboveTheBound();
    belowTheBound();
    atTheBoundIsNotBeyond();
    atLeastOneTick();
    within4096();
    theTickIsNotDone();
    leastAndGreatestBound();
    boundBelowZero();
    noSuchWish();
    leastAndGreatestWish();
    anySum();
    nothingChanges();
    Check.end();
  }

  private static void aboveTheBound() {
    Check.sentence(15, "how many TICKS until a SUM is above bound");
    CoarseSteps x = new CoarseSteps();
    Check.same("leaves(2, 7): 8 is the first above", 8, x.leaves(2, 7));
    Check.same("leaves(3, 7): 2 4 6 8", 4, x.leaves(3, 7));
    Check.same("leaves(3, 6): 2 4 6 8", 4, x.leaves(3, 6));
    Check.same("leaves(3, 5): 2 4 6", 3, x.leaves(3, 5));
    x.start(0, 5);
    Check.same("leaves(2, 7) from 5", 3, x.leaves(2, 7));
  }

  private static void belowTheBound() {
    Check.sentence(15, "or below -bound");
    CoarseSteps x = new CoarseSteps();
    Check.same("leaves(-1, 5): -6 is the first below", 6, x.leaves(-1, 5));
    Check.same("leaves(-2, 5): -2 -4 -6", 3, x.leaves(-2, 5));
    Check.same("leaves(-2, 4): -2 -4 -6", 3, x.leaves(-2, 4));
    Check.same("leaves(-2, 3): -2 -4", 2, x.leaves(-2, 3));
  }

  private static void atTheBoundIsNotBeyond() {
    Check.sentence(15, "above bound, or below -bound: not at it");
    CoarseSteps x = Bench.firstFrom(1, -100);
    Check.same("leaves(0, 100): it stays -100", Bench.NOT_TOLD, x.leaves(0, 100));
    Check.same("leaves(0, 99)", 1, x.leaves(0, 99));
    x = Bench.firstFrom(1, 100);
    Check.same("leaves(1, 100): it stays 100", Bench.NOT_TOLD, x.leaves(1, 100));
    Check.same("leaves(1, 99)", 1, x.leaves(1, 99));
  }

  private static void atLeastOneTick() {
    Check.sentence(15, "how many TICKS (at least 1)");
    CoarseSteps x = Bench.firstFrom(1, 100);
    Check.same("leaves(0, 98): 99 behind the first", 1, x.leaves(0, 98));
    Check.same("leaves(0, 99): beyond it before all alone", Bench.NOT_TOLD, x.leaves(0, 99));
    x = Bench.firstFrom(1, -100);
    Check.same("leaves(1, 99): beyond it before all alone", Bench.NOT_TOLD, x.leaves(1, 99));
  }

  private static void within4096() {
    Check.sentence(15, "-2 if not within 4096");
    CoarseSteps x = new CoarseSteps();
    Check.same("leaves(2, 4094)", 4095, x.leaves(2, 4094));
    Check.same("leaves(2, 4095)", 4096, x.leaves(2, 4095));
    Check.same("leaves(2, 4096)", Bench.NOT_TOLD, x.leaves(2, 4096));
    Check.same("leaves(-1, 4095)", 4096, x.leaves(-1, 4095));
    Check.same("leaves(-1, 4096)", Bench.NOT_TOLD, x.leaves(-1, 4096));
    Check.same("leaves(1, 0): never", Bench.NOT_TOLD, x.leaves(1, 0));
  }

  private static void theTickIsNotDone() {
    Check.sentence(15, "or the TICK is not done: that one, too");
    CoarseSteps x = Bench.firstFrom(1, MOST);
    Check.same("leaves(2, MOST): the first", 1, x.leaves(2, MOST));
    x = Bench.firstFrom(1, MOST - 3);
    Check.same("leaves(2, MOST): the fourth", 4, x.leaves(2, MOST));
    Check.same("leaves(2, MOST - 1): beyond it before", 3, x.leaves(2, MOST - 1));
    x = Bench.firstFrom(1, 3 - MOST);
    Check.same("leaves(-1, MOST): the fourth", 4, x.leaves(-1, MOST));
    x = Bench.firstFrom(1, MOST - 4095);
    Check.same("leaves(2, MOST): TICK 4096", 4096, x.leaves(2, MOST));
    x = Bench.firstFrom(1, MOST - 4096);
    Check.same("leaves(2, MOST): TICK 4097", Bench.NOT_TOLD, x.leaves(2, MOST));
  }

  private static void leastAndGreatestBound() {
    Check.sentence(15, "a bound of 0, and of the most");
    CoarseSteps x = new CoarseSteps();
    Check.same("leaves(2, 0)", 1, x.leaves(2, 0));
    Check.same("leaves(-1, 0)", 1, x.leaves(-1, 0));
    Check.same("leaves(0, 0)", Bench.NOT_TOLD, x.leaves(0, 0));
    Check.same("leaves(1000000, most)", Bench.NOT_TOLD, x.leaves(1000000, Long.MAX_VALUE));
    Check.same("leaves(-1000000, most)", Bench.NOT_TOLD, x.leaves(-1000000, Long.MAX_VALUE));
    x = Bench.firstFrom(1, MOST);
    Check.same("leaves(2, most): it is not done", 1, x.leaves(2, Long.MAX_VALUE));
    Check.same("leaves(1, MOST)", Bench.NOT_TOLD, x.leaves(1, MOST));
    Check.same("leaves(1, MOST - 1)", 1, x.leaves(1, MOST - 1));
  }

  private static void boundBelowZero() {
    Check.sentence(15, "NONE: bound below 0");
    CoarseSteps x = new CoarseSteps();
    for (long bound : new long[] {-1, -MOST, Long.MIN_VALUE}) {
      Check.same("leaves(2, " + bound + ")", Bench.NONE, x.leaves(2, bound));
      Check.same("leaves(0, " + bound + ")", Bench.NONE, x.leaves(0, bound));
    }
  }

  private static void noSuchWish() {
    Check.sentence(15, "NONE: no such wish");
    CoarseSteps x = new CoarseSteps();
    for (int w : Bench.beyondWishes()) {
      Check.same("leaves(" + w + ", 5)", Bench.NONE, x.leaves(w, 5));
      Check.same("leaves(" + w + ", -1)", Bench.NONE, x.leaves(w, -1));
    }
  }

  private static void leastAndGreatestWish() {
    Check.sentence(15, "By a wish (-1000000 .. 1000000)");
    CoarseSteps x = new CoarseSteps();
    Check.same("leaves(1000000, 999998)", 1, x.leaves(1000000, 999998));
    Check.same("leaves(1000000, 999999)", 2, x.leaves(1000000, 999999));
    Check.same("leaves(-1000000, 999999)", 1, x.leaves(-1000000, 999999));
    Check.same("leaves(-1000000, 1000000)", 2, x.leaves(-1000000, 1000000));
  }

  private static void anySum() {
    Check.sentence(15, "until a SUM is: any of them");
    CoarseSteps x = Bench.loop(3, 2, 0);
    // (1,0) (2,1) (3,3) (4,6): the second is beyond 5 before the first.
    Check.same("leaves(2, 5) of a ROW", 4, x.leaves(2, 5));
    x.loop(1, 0, 0);
    x.start(0, 9);
    x.start(1, 20);
    Check.same("leaves(2, 8) of TWO: (0,9)", 1, x.leaves(2, 8));
    for (int k = 0; k < 4; k++) {
      x.loop(2, 4, 0);
      x.table(k, k, -3);
      x.start(k, 1);
      Check.same("leaves(0, 26) of TABLES: 1 -3 9 -27", 3, x.leaves(0, 26));
      Check.same("leaves(0, 27) of TABLES", 4, x.leaves(0, 27));
    }
    x.loop(0, 0, 0);
    Check.same("leaves(0, 0): SUMS of another LOOP do not count", Bench.NOT_TOLD, x.leaves(0, 0));
  }

  private static void nothingChanges() {
    Check.sentence(15, "Nothing changes");
    Bench.unchangedBy(x -> {
      x.leaves(1000000, MOST);
      x.leaves(-1000000, 5);
      x.leaves(1, 5);
      x.leaves(1, -5);
      x.leaves(1000001, 5);
    });
  }
}

/** Promise 19: even. */
public final class Promise19Test {
  private static final int NONE = Bench.NONE;

  public static void main(String[] args) {
    beforeAll();
    oneAlone();
    differBy1();
    forEachLength();
    anyTwoStretches();
    theLastOnes();
    theMostThatAreKept();
    tooFewAndTooMany();
    soManyAreNotKept();
    belowZero();
    nothingChanges();
    Check.end();
  }

  /** A FIRST over 1 that gave just these: each is wished as it is. */
  private static CoarseSteps gave(int... given) {
    CoarseSteps x = Bench.over(1, -3, -2, -1, 0, 1, 2, 3, 100);
    Bench.ticks(x, given);
    return x;
  }

  private static void beforeAll() {
    Check.sentence(19, "NONE if so many are not kept: no TICKS were");
    Check.same("even(1)", NONE, new CoarseSteps().even(1));
  }

  private static void oneAlone() {
    Check.sentence(19, "the last n (1 .. 256) GIVEN: one of them");
    Check.same("even(1) of 0", 1, gave(0).even(1));
    Check.same("even(1) of 100", 1, gave(0, 100).even(1));
    Check.same("even(1) of -3", 1, gave(100, -3).even(1));
  }

  private static void differBy1() {
    Check.sentence(19, "differ by 1 at most");
    Check.same("even(2) of 0 0", 1, gave(0, 0).even(2));
    Check.same("even(2) of 0 1", 1, gave(0, 1).even(2));
    Check.same("even(2) of 1 0", 1, gave(1, 0).even(2));
    Check.same("even(2) of 0 2", 0, gave(0, 2).even(2));
    Check.same("even(2) of 2 0", 0, gave(2, 0).even(2));
    Check.same("even(2) of 3 100", 0, gave(3, 100).even(2));
    Check.same("even(3) of 0 1 2", 0, gave(0, 1, 2).even(3));
  }

  private static void forEachLength() {
    Check.sentence(19, "for each length");
    Check.same("even(4) of 0 0 1 1: by 2", 0, gave(0, 0, 1, 1).even(4));
    Check.same("even(4) of 0 1 1 0", 1, gave(0, 1, 1, 0).even(4));
    Check.same("even(6) of 1 1 2 1 1 0: by 3", 0, gave(1, 1, 2, 1, 1, 0).even(6));
    Check.same("even(6) of 0 1 0 1 0 1", 1, gave(0, 1, 0, 1, 0, 1).even(6));
    Check.same("even(8) of 1 0 0 1 0 0 0 0: by 4 alone", 0, gave(1, 0, 0, 1, 0, 0, 0, 0).even(8));
    // Two paces that only stretches of some thirty TICKS tell apart.
    CoarseSteps x = Bench.over(1000);
    x.run(128, 500);
    x.run(128, 520);
    Check.same("even(256) of two paces", 0, x.even(256));
    Check.same("even(128) of the latter", 1, x.even(128));
    Check.yes("stretches of 26 do not tell", evenBy(x, 26));
  }

  private static boolean evenBy(CoarseSteps x, int length) {
    int least = Integer.MAX_VALUE;
    int most = Integer.MIN_VALUE;
    int[] given = new int[256];
    for (int k = 0; k < 256; k++) {
      given[k] = x.was(k, 0);
    }
    for (int from = 0; from + length <= 256; from++) {
      int sum = 0;
      for (int k = from; k < from + length; k++) {
        sum += given[k];
      }
      least = Math.min(least, sum);
      most = Math.max(most, sum);
    }
    return most - least <= 1;
  }

  private static void anyTwoStretches() {
    Check.sentence(19, "the sums of any two stretches of that length");
    // Those that tell stand at the very ends, and lie over one another in the middle.
    Check.same("even(5) of 0 0 1 0 2", 0, gave(0, 0, 1, 0, 2).even(5));
    Check.same("even(5) of 0 0 1 1 1: by 2", 0, gave(0, 0, 1, 1, 1).even(5));
    Check.same("even(3) of 2 1 1: by 2", 1, gave(2, 1, 1).even(3));
    Check.same("even(3) of 2 1 0", 0, gave(2, 1, 0).even(3));
    // 0 0 1 0 1 .. 0 1 0 1 1: the first two and the last two.
    CoarseSteps x = new CoarseSteps();
    Bench.ticks(x, 0, 0);
    for (int k = 0; k < 126; k++) {
      Bench.ticks(x, 1, 0);
    }
    Bench.ticks(x, 1, 1);
    Check.same("even(255), without the very first", 1, x.even(255));
    Check.same("even(256), with it", 0, x.even(256));
  }

  private static void theLastOnes() {
    Check.sentence(19, "the last n GIVEN");
    CoarseSteps x = gave(3, 0, 0, 1, 1);
    Check.same("even(2) of 1 1", 1, x.even(2));
    Check.same("even(3) of 0 1 1", 1, x.even(3));
    Check.same("even(4) of 0 0 1 1", 0, x.even(4));
    Check.same("even(5) of 3 0 0 1 1", 0, x.even(5));
    x = gave(3, 0, 1);
    Check.same("even(2) of 0 1: not of 3 0", 1, x.even(2));
  }

  private static void theMostThatAreKept() {
    Check.sentence(19, "the last n (1 .. 256)");
    CoarseSteps x = Bench.over(89);
    x.run(256, 34);
    Check.same("even(256) of 256 TICKS of a FIRST by one wish", 1, x.even(256));
    x.run(300, 34);
    Check.same("even(256) of more", 1, x.even(256));
    x = Bench.over(1, 0, 100);
    x.run(256, 100);
    Check.same("even(256) of the greatest", 1, x.even(256));
    x.tick(0);
    Check.same("even(256) with the latest other", 0, x.even(256));
  }

  private static void tooFewAndTooMany() {
    Check.sentence(19, "NONE for no n of 1 .. 256");
    CoarseSteps x = Bench.over(89);
    x.run(300, 34);
    for (int n : new int[] {0, 257, 300, -1, Integer.MAX_VALUE, Integer.MIN_VALUE}) {
      Check.same("even(" + n + ")", NONE, x.even(n));
    }
  }

  private static void soManyAreNotKept() {
    Check.sentence(19, "NONE if so many are not kept");
    for (int all : new int[] {1, 2, 255, 256}) {
      CoarseSteps x = new CoarseSteps();
      x.run(all, 1);
      Check.same("even(" + all + ")", 1, x.even(all));
      Check.same("even(" + (all + 1) + ")", NONE, x.even(all + 1));
    }
    CoarseSteps x = gave(0, 1);
    x.over(1);
    Check.same("even(1) of a LOOP anew", NONE, x.even(1));
  }

  private static void belowZero() {
    Check.sentence(19, "differ by 1 at most, below 0 too");
    Check.same("even(2) of -1 0", 1, gave(-1, 0).even(2));
    Check.same("even(2) of -1 1", 0, gave(-1, 1).even(2));
    Check.same("even(4) of -2 -3 -2 -3", 1, gave(-2, -3, -2, -3).even(4));
    Check.same("even(4) of -2 -2 -3 -3", 0, gave(-2, -2, -3, -3).even(4));
  }

  private static void nothingChanges() {
    Check.sentence(19, "nothing is changed by it");
    Bench.unchangedBy(x -> {
      x.even(1);
      x.even(4);
      x.even(2);
      x.even(5);
      x.even(0);
    });
  }
}

/** Promise 12: missed. */
public final class Promise12Test {
  public static void main(String[] args) {
    beforeAll();
    theLastOnes();
    theMostThatAreKept();
    tooFewAndTooMany();
    soManyAreNotKept();
    leastAndGreatest();
    aRowsGiven();
    nothingChanges();
    Check.end();
  }

  private static void beforeAll() {
    Check.sentence(12, "0 if so many are not kept: no TICKS were");
    Check.same("missed(1)", 0, new CoarseSteps().missed(1));
  }

  private static void theLastOnes() {
    Check.sentence(12, "The sum of the last n GIVEN, times D, less that of their wishes");
    CoarseSteps x = Bench.over(4);
    Bench.ticks(x, 3, 3, 3, -5);
    // 0 1 1 0 were GIVEN.
    Check.same("missed(1)", 5, x.missed(1));
    Check.same("missed(2)", 4 - 3 + 5, x.missed(2));
    Check.same("missed(3)", 8 - 6 + 5, x.missed(3));
    Check.same("missed(4)", 8 - 9 + 5, x.missed(4));
  }

  private static void theMostThatAreKept() {
    Check.sentence(12, "the last n (1 .. 256)");
    CoarseSteps x = Bench.over(7);
    x.run(45, 2);
    x.run(255, 3);
    long due = 0;
    for (int n = 1; n <= 256; n++) {
      due += 7L * x.was(n - 1, 0) - (n <= 255 ? 3 : 2);
      if (n == 1 || n % 50 == 5 || n == 256) {
        Check.same("missed(" + n + ")", due, x.missed(n));
      }
    }
  }

  private static void tooFewAndTooMany() {
    Check.sentence(12, "0 for no n of 1 .. 256");
    CoarseSteps x = Bench.over(10);
    x.run(300, -1);
    Check.same("missed(256)", 256, x.missed(256));
    for (int n : new int[] {0, 257, 300, -1, -256, Integer.MAX_VALUE, Integer.MIN_VALUE}) {
      Check.same("missed(" + n + ")", 0, x.missed(n));
    }
  }

  private static void soManyAreNotKept() {
    Check.sentence(12, "0 if so many are not kept");
    for (int all : new int[] {1, 2, 255, 256}) {
      CoarseSteps x = Bench.over(10);
      x.run(all, -1);
      Check.same("missed(" + all + ")", all, x.missed(all));
      Check.same("missed(" + (all + 1) + ")", 0, x.missed(all + 1));
    }
    CoarseSteps x = Bench.over(10);
    x.run(5, -1);
    x.over(10);
    Check.same("missed(1) of a LOOP anew", 0, x.missed(1));
  }

  private static void leastAndGreatest() {
    Check.sentence(12, "a long: 256 of the greatest");
    CoarseSteps x = Bench.over(10000, -100, 100);
    x.start(0, 1000000000L);
    x.run(256, -1000000);
    Check.same("missed(256)", 256L * 2000000, x.missed(256));
    x = Bench.over(10000, -100, 100);
    x.start(0, -1000000000L);
    x.run(256, 1000000);
    Check.same("missed(256)", -256L * 2000000, x.missed(256));
    x = Bench.over(10000, -100, 100);
    x.loop(3, 3, 0);
    alternating(x);
  }

  /** A ROW may give 700 at once, which is more than 2147483647 in 256 TICKS, 10000 times. */
  private static void alternating(CoarseSteps x) {
    long due = 0;
    for (int k = 0; k < 100; k++) {
      int given = x.tick(k % 2 == 0 ? 1000000 : -1000000);
      due += given * 10000L - x.was(0, 1);
    }
    Check.same("missed(100) of a ROW", due, x.missed(100));
  }

  private static void aRowsGiven() {
    Check.sentence(12, "the last n GIVEN, of a ROW all that is GIVEN");
    CoarseSteps x = Bench.over(4);
    x.loop(3, 3, 0);
    x.run(3, 1);
    Check.same("missed(3)", -3, x.missed(3));
    Check.same("missed(1)", -4 - 1, x.missed(1));
  }

  private static void nothingChanges() {
    Check.sentence(12, "nothing is changed by it");
    Bench.unchangedBy(x -> {
      x.missed(1);
      x.missed(4);
      x.missed(5);
      x.missed(-1);
      x.missed(257);
    });
  }
}

/** Promise 22: read. */
public final class Promise22Test {
  public static void main(String[] args) {
    noWeights();
    noTicks();
    firstWeightTimesTheLatest();
    zeroForThoseThatWereNot();
    theMostWeights();
    theGreatestNumbers();
    beyondWhatIsKept();
    anew();
    aRowsGiven();
    nothingChanges();
    Check.end();
  }

  private static void noWeights() {
    Check.sentence(22, "READ of no weights");
    CoarseSteps x = new CoarseSteps();
    Check.same("read()", 0, x.read());
    x.run(300, 1);
    Check.same("read() behind TICKS", 0, x.read());
  }

  private static void noTicks() {
    Check.sentence(22, "0 for those that were not: none were");
    CoarseSteps x = new CoarseSteps();
    x.weight(1000);
    x.weight(-7);
    Check.same("read()", 0, x.read());
  }

  private static void firstWeightTimesTheLatest() {
    Check.sentence(22, "the first weight times the latest GIVEN, the second the one before");
    CoarseSteps x = Bench.over(1, -2, 0, 1, 3);
    x.weight(1);
    x.weight(-10);
    x.weight(100);
    Bench.ticks(x, 3, -2, 1, 0);
    Check.same("read() of 0, 1, -2", -10 - 200, x.read());
    x.tick(3);
    Check.same("read() of 3, 0, 1", 3 + 100, x.read());
  }

  private static void zeroForThoseThatWereNot() {
    Check.sentence(22, "0 for those that were not");
    CoarseSteps x = Bench.over(1, -2, 0, 1, 3);
    x.weight(1);
    x.weight(-10);
    x.weight(100);
    x.tick(3);
    Check.same("read() of 3", 3, x.read());
    x.tick(-2);
    Check.same("read() of -2, 3", -2 - 30, x.read());
  }

  private static void theMostWeights() {
    Check.sentence(22, "up to 64 weights, with as many TICKS, one less and one more");
    CoarseSteps x = new CoarseSteps();
    for (int k = 1; k <= 64; k++) {
      x.weight(k);
    }
    x.run(63, 1);
    Check.same("read() of 63", 63 * 64 / 2, x.read());
    x.tick(1);
    Check.same("read() of 64", 64 * 65 / 2, x.read());
    x.tick(1);
    Check.same("read() of 65", 64 * 65 / 2, x.read());
    x.tick(0);
    Check.same("read() with 0 the latest", 64 * 65 / 2 - 1, x.read());
  }

  private static void theGreatestNumbers() {
    Check.sentence(22, "weights (-1000 .. 1000) times STEPS (-100 .. 100)");
    CoarseSteps x = Bench.over(1, -100, 100);
    for (int k = 0; k < 64; k++) {
      x.weight(1000);
    }
    x.run(64, 100);
    Check.same("read()", 64L * 1000 * 100, x.read());
    x.over(1);
    x.run(64, -100);
    Check.same("read()", -64L * 1000 * 100, x.read());
  }

  private static void beyondWhatIsKept() {
    Check.sentence(22, "the latest GIVEN, behind more TICKS than are kept");
    for (int all : new int[] {255, 256, 257, 300, 511, 512, 513}) {
      CoarseSteps x = Bench.over(1, 0, 1, 2);
      x.weight(1);
      x.weight(10);
      x.weight(100);
      x.run(all - 2, 1);
      Bench.ticks(x, 2, 0);
      Check.same("read() behind " + all, 20 + 100, x.read());
    }
  }

  private static void anew() {
    Check.sentence(22, "0 for those that were not: a LOOP anew");
    CoarseSteps x = new CoarseSteps();
    x.weight(5);
    x.run(300, 1);
    x.over(1);
    Check.same("read()", 0, x.read());
    x.tick(1);
    Check.same("read()", 5, x.read());
  }

  private static void aRowsGiven() {
    Check.sentence(22, "GIVEN, of a ROW all of it, of a WHEEL not the PARTS");
    CoarseSteps x = Bench.over(1, 1, 2);
    x.loop(3, 3, 0);
    x.weight(10);
    x.tick(1);
    Check.same("read() of a ROW", 30, x.read());
    Bench.tell(x, -5, 40);
    x.loop(4, 2, 0);
    x.tick(40);
    Check.same("read() of a WHEEL", 400, x.read());
    x.tick(-5);
    Check.same("read() of a WHEEL", -50, x.read());
  }

  private static void nothingChanges() {
    Check.sentence(22, "nothing is changed by it");
    Bench.unchangedBy(x -> x.read());
  }
}

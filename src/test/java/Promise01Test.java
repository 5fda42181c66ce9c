/** Promise 1: a new object. */
public final class Promise01Test {
  public static void main(String[] args) {
    overIsOne();
    stepsAreZeroAndOne();
    itIsAFirst();
    sumsAreZero();
    thereIsNoFilter();
    noTicksWere();
    tailIsZero();
    boxIsZeroToZero();
    constantsAreToldOnes();
    objectsShareNothing();
    Check.end();
  }

  private static void overIsOne() {
    Check.sentence(1, "D 1");
    CoarseSteps x = new CoarseSteps();
    Check.same("about(0)", 1, x.about(0));
    Check.same("tick(1): 1 over 1", 1, x.tick(1));
    Check.same("word(1, 0): 1 is above D - 1", Bench.NONE, x.word(1, 0));
  }

  private static void stepsAreZeroAndOne() {
    Check.sentence(1, "STEPS 0 and 1");
    CoarseSteps x = new CoarseSteps();
    Check.same("about(1)", 2, x.about(1));
    Check.same("step(0)", 0, x.step(0));
    Check.same("step(1)", 1, x.step(1));
    Check.same("step(2)", Bench.REFUSED, x.step(2));
    Check.same("tick(2)", 1, x.tick(2));
    Check.same("tick(-2)", 0, x.tick(-2));
  }

  private static void itIsAFirst() {
    Check.sentence(1, "a FIRST");
    CoarseSteps x = new CoarseSteps();
    Check.same("about(2)", 0, x.about(2));
    Check.same("about(3)", 1, x.about(3));
    Check.same("about(4)", 0, x.about(4));
    Check.same("about(8)", 0, x.about(8));
    Check.same("spread()", Bench.NONE, x.spread());
    Check.no("table(0, 0, 1)", x.table(0, 0, 1));
    Check.no("start(1, 0)", x.start(1, 0));
    x.tick(5);
    x.tick(5);
    Check.same("sum(0)", 8, x.sum(0));
  }

  private static void sumsAreZero() {
    Check.sentence(1, "SUMS (0 at first)");
    CoarseSteps x = new CoarseSteps();
    Check.same("sum(0)", 0, x.sum(0));
    x.tick(1);
    Check.same("back(1, 0): it began with SUM 0", 1, x.back(1, 0));
  }

  private static void thereIsNoFilter() {
    Check.sentence(1, "no FILTER");
    CoarseSteps x = new CoarseSteps();
    Check.same("about(7)", 0, x.about(7));
    x.tick(1);
    Check.same("read()", 0, x.read());
    Check.same("clear()", 0, x.clear());
    Check.same("weight(2) is the first", 1, x.weight(2));
  }

  private static void noTicksWere() {
    Check.sentence(1, "no TICKS");
    CoarseSteps x = new CoarseSteps();
    Check.same("about(5)", 0, x.about(5));
    Check.same("about(6)", 0, x.about(6));
    Check.same("was(0, 0)", Bench.REFUSED, x.was(0, 0));
    Check.same("was(0, 1)", Bench.REFUSED, x.was(0, 1));
    Check.same("even(1)", Bench.NONE, x.even(1));
    Check.same("back(1, 0)", Bench.REFUSED, x.back(1, 0));
    Check.yes("start(0, 3)", x.start(0, 3));
  }

  private static void tailIsZero() {
    Check.sentence(1, "TAIL (0 at first)");
    Check.same("tail()", 0, new CoarseSteps().tail());
  }

  private static void boxIsZeroToZero() {
    Check.sentence(1, "0 to 0 at first, for each");
    CoarseSteps x = new CoarseSteps();
    Check.same("kept(0, 1)", 1, x.kept(0, 1));
    Check.same("kept(-1, -1)", 0, x.kept(-1, -1));
    Check.same("kept(2, 2)", 0, x.kept(2, 2));
  }

  private static void constantsAreToldOnes() {
    Check.sentence(1, "NONE = -1, REFUSED = -2147483648");
    Check.same("NONE", -1, CoarseSteps.NONE);
    Check.same("REFUSED", -2147483648L, CoarseSteps.REFUSED);
  }

  private static void objectsShareNothing() {
    Check.sentence(1, "a new object");
    CoarseSteps other = Bench.busy(4, 3, 0);
    other.ring(1);
    CoarseSteps x = new CoarseSteps();
    Bench.begunAnew("beside another", x);
    Check.same("about(0)", 1, x.about(0));
    Check.same("about(1)", 2, x.about(1));
    Check.same("about(7)", 0, x.about(7));
    x.over(9);
    x.clear();
    Check.same("the other's about(0)", 4, other.about(0));
    Check.same("the other's about(5)", 4, other.about(5));
    Check.same("the other's about(7)", 2, other.about(7));
  }
}

import java.util.Arrays;
import java.util.function.Consumer;
import java.util.function.Supplier;

/** Objects for the tests to begin with, and a look at what calls change in them. */
final class Bench {
  static final long MOST_SUM = 1000000000000L;
  static final int MOST_WISH = 1000000;
  static final int NONE = CoarseSteps.NONE;
  static final int REFUSED = CoarseSteps.REFUSED;
  static final int NOT_TOLD = -2;
  static final int NOT_DONE = -3;

  private static final int[] BEYOND_WISHES = {
    MOST_WISH + 1, -MOST_WISH - 1, Integer.MAX_VALUE, Integer.MIN_VALUE,
  };
  private static final int[][] KINDS = {
    {0, 0, 0}, {1, 0, 0}, {2, 1, 0}, {2, 4, 0}, {3, 2, 0}, {3, 3, 0}, {4, 2, 0}, {4, 7, 0},
    {4, 16, 1},
  };
  private static final Looks LOOKS = new Looks();

  private Bench() {}

  static int[] beyondWishes() {
    return BEYOND_WISHES.clone();
  }

  /** A kind, n and rule for each sort of LOOP, with the edges of n. */
  static int[][] kinds() {
    int[][] all = new int[KINDS.length][];
    for (int k = 0; k < all.length; k++) {
      all[k] = KINDS[k].clone();
    }
    return all;
  }

  static CoarseSteps loop(int kind, int n, int rule) {
    CoarseSteps x = new CoarseSteps();
    x.loop(kind, n, rule);
    return x;
  }

  static CoarseSteps over(int d, int... steps) {
    CoarseSteps x = new CoarseSteps();
    x.over(d);
    if (steps.length > 0) {
      tell(x, steps);
    }
    return x;
  }

  static boolean tell(CoarseSteps x, int... steps) {
    int[] s = Arrays.copyOf(steps, 8);
    return x.steps(steps.length, s[0], s[1], s[2], s[3], s[4], s[5], s[6], s[7]);
  }

  static CoarseSteps firstFrom(int d, long sum) {
    CoarseSteps x = over(d);
    x.start(0, sum);
    return x;
  }

  static void ticks(CoarseSteps x, int... wishes) {
    for (int w : wishes) {
      x.tick(w);
    }
  }

  /** One that has just begun, with as little as this sort of LOOP needs to go on. */
  private static CoarseSteps begun(int kind, int n, int rule) {
    CoarseSteps x = over(4, -1, 0, 1, 2, 5);
    x.loop(kind, n, rule);
    fillTables(x);
    return x;
  }

  /** One that has something of everything that a LOOP of this sort can have. */
  static CoarseSteps busy(int kind, int n, int rule) {
    CoarseSteps x = begun(kind, n, rule);
    for (int k = 0; k < 4; k++) {
      x.start(k, 5 - 3 * k);
      x.box(k, -k, 3);
    }
    x.weight(3);
    x.weight(-5);
    x.ring(1);
    ticks(x, 3, 6, -2, 9);
    return x;
  }

  /** The tables of busy(); nothing for another KIND. */
  static void fillTables(CoarseSteps x) {
    for (int i = 0; i <= 4; i++) {
      for (int j = 0; j <= 5; j++) {
        x.table(i, j, 1 - (i + 2 * j) % 3);
      }
    }
  }

  /** Behind calls that change nothing, each sort of LOOP is and goes on as one without them. */
  static void unchangedBy(Consumer<CoarseSteps> calls) {
    sameBehind(x -> {}, calls);
  }

  /** The same of LOOPS that have just begun: what busy() calls itself is seen here alone. */
  static void unchangedAtFirstBy(Consumer<CoarseSteps> calls) {
    for (int[] kind : KINDS) {
      sameBehind("KIND " + kind[0], () -> begun(kind[0], kind[1], kind[2]), x -> {}, calls);
    }
  }

  /** Each sort of LOOP is and goes on the same behind the one calls and the others. */
  static void sameBehind(Consumer<CoarseSteps> due, Consumer<CoarseSteps> got) {
    for (int[] kind : KINDS) {
      sameBehind("KIND " + kind[0], () -> busy(kind[0], kind[1], kind[2]), due, got);
    }
    sameBehind("a FIRST from 0", Bench::firstFromZero, due, got);
  }

  static void sameBehind(String why, Supplier<CoarseSteps> from, Consumer<CoarseSteps> due,
      Consumer<CoarseSteps> got) {
    LOOKS.same(why, () -> behind(from, due), () -> behind(from, got));
  }

  private static CoarseSteps behind(Supplier<CoarseSteps> from, Consumer<CoarseSteps> calls) {
    CoarseSteps x = from.get();
    calls.accept(x);
    return x;
  }

  /** busy() starts its SUMS with others than 0, which back() refuses. */
  private static CoarseSteps firstFromZero() {
    CoarseSteps x = over(4, -1, 0, 1, 2, 5);
    x.box(0, 0, 3);
    x.weight(3);
    x.weight(-5);
    ticks(x, 3, 6, 5, 9);
    return x;
  }

  /** A LOOP that has just begun, and goes on as one that never did a TICK. */
  static void begunAnew(String why, CoarseSteps x) {
    for (int k = 0; k < 4; k++) {
      Check.same(why + ": sum(" + k + ")", 0, x.sum(k));
    }
    Check.same(why + ": about(5), TICKS", 0, x.about(5));
    Check.same(why + ": about(6), TICKS kept", 0, x.about(6));
    Check.same(why + ": about(8), HAND", 0, x.about(8));
    Check.same(why + ": was(0, 0)", REFUSED, x.was(0, 0));
    Check.same(why + ": behind(0)", 0, x.behind(0));
    for (int k = 0; k < x.about(4); k++) {
      Check.same(why + ": part(" + k + ", 0)", 0, x.part(k, 0));
      Check.same(why + ": part(" + k + ", 1)", 0, x.part(k, 1));
    }
    Check.same(why + ": read()", 0, x.read());
  }
}

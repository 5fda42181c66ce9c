import java.util.Arrays;

/** Objects for the tests to begin with, and a look at all that two of them tell. */
final class Bench {
  static final long MOST_SUM = 1000000000000L;
  static final int MOST_WISH = 1000000;
  static final int NONE = CoarseSteps.NONE;
  static final int REFUSED = CoarseSteps.REFUSED;
  static final int NOT_TOLD = -2;
  static final int NOT_DONE = -3;

  private static final int[] BEYOND_WISHES = {
    MOST_WISH + 1, -MOST_WISH - 1, Integer.MAX_VALUE, Integer.MIN_VALUE,
  };
  private static final int[][] KINDS = {
    {0, 0, 0}, {1, 0, 0}, {2, 1, 0}, {2, 4, 0}, {3, 2, 0}, {3, 3, 0}, {4, 2, 0}, {4, 16, 1},
  };
  private static final int[] LATEST = {0, 1, 2, 3, 4, 254, 255, 256};

  private Bench() {}

  static int[] beyondWishes() {
    return BEYOND_WISHES.clone();
  }

  /** A kind, n and rule for each sort of LOOP, at the edges of n. */
  static int[][] kinds() {
    int[][] all = new int[KINDS.length][];
    for (int k = 0; k < all.length; k++) {
      all[k] = KINDS[k].clone();
    }
    return all;
  }

  static CoarseSteps loop(int kind, int n, int rule) {
    CoarseSteps x = new CoarseSteps();
    x.loop(kind, n, rule);
    return x;
  }

  static CoarseSteps over(int d, int... steps) {
    CoarseSteps x = new CoarseSteps();
    x.over(d);
    if (steps.length > 0) {
      tell(x, steps);
    }
    return x;
  }

  static boolean tell(CoarseSteps x, int... steps) {
    int[] s = Arrays.copyOf(steps, 8);
    return x.steps(steps.length, s[0], s[1], s[2], s[3], s[4], s[5], s[6], s[7]);
  }

  static CoarseSteps firstFrom(int d, long sum) {
    CoarseSteps x = over(d);
    x.start(0, sum);
    return x;
  }

  static void ticks(CoarseSteps x, int... wishes) {
    for (int w : wishes) {
      x.tick(w);
    }
  }

  /** One that has something of everything that a LOOP of this sort can have. */
  static CoarseSteps busy(int kind, int n, int rule) {
    CoarseSteps x = over(4, -1, 0, 1, 2, 5);
    x.loop(kind, n, rule);
    for (int i = 0; i <= 4; i++) {
      for (int j = 0; j <= 5; j++) {
        x.table(i, j, 1 - (i + 2 * j) % 3);
      }
    }
    for (int k = 0; k < 4; k++) {
      x.start(k, 5 - 3 * k);
      x.box(k, -k, k + 1);
    }
    x.weight(3);
    x.weight(-5);
    ticks(x, 3, 6, -2, 9);
    return x;
  }

  /** All that they tell now, and behind five TICKS more, is the same: so is what is held inside. */
  static void alike(String why, CoarseSteps due, CoarseSteps got) {
    lookAlike(why, due, got);
    for (int w : new int[] {3, -2, 11, 0, 1}) {
      Check.same(why + ": then tick(" + w + ")", due.tick(w), got.tick(w));
    }
    lookAlike(why + ": five TICKS later", due, got);
  }

  private static void lookAlike(String why, CoarseSteps due, CoarseSteps got) {
    Check.same(why + ": tail()", due.tail(), got.tail());
    Check.same(why + ": spread()", due.spread(), got.spread());
    Check.same(why + ": read()", due.read(), got.read());
    for (int k = 0; k <= 8; k++) {
      Check.same(why + ": about(" + k + ")", due.about(k), got.about(k));
      Check.same(why + ": step(" + k + ")", due.step(k), got.step(k));
    }
    for (int k = 0; k <= 4; k++) {
      Check.same(why + ": sum(" + k + ")", due.sum(k), got.sum(k));
    }
    for (int k : LATEST) {
      Check.same(why + ": was(" + k + ", 0)", due.was(k, 0), got.was(k, 0));
      Check.same(why + ": was(" + k + ", 1)", due.was(k, 1), got.was(k, 1));
      Check.same(why + ": behind(" + k + ")", due.behind(k), got.behind(k));
    }
    for (int k = 0; k < due.about(4); k++) {
      Check.same(why + ": part(" + k + ", 0)", due.part(k, 0), got.part(k, 0));
      Check.same(why + ": part(" + k + ", 1)", due.part(k, 1), got.part(k, 1));
    }
    Check.same(why + ": back(1, 0)", due.back(1, 0), got.back(1, 0));
    Check.same(why + ": kept(0, 1)", due.kept(0, 1), got.kept(0, 1));
    Check.same(why + ": leaves(1, 30)", due.leaves(1, 30), got.leaves(1, 30));
  }

  /** A LOOP that has just begun, and goes on as one that never did a TICK. */
  static void begunAnew(String why, CoarseSteps x) {
    for (int k = 0; k < 4; k++) {
      Check.same(why + ": sum(" + k + ")", 0, x.sum(k));
    }
    Check.same(why + ": about(5), TICKS", 0, x.about(5));
    Check.same(why + ": about(6), TICKS kept", 0, x.about(6));
    Check.same(why + ": about(8), HAND", 0, x.about(8));
    Check.same(why + ": was(0, 0)", REFUSED, x.was(0, 0));
    Check.same(why + ": behind(0)", 0, x.behind(0));
    for (int k = 0; k < x.about(4); k++) {
      Check.same(why + ": part(" + k + ", 0)", 0, x.part(k, 0));
      Check.same(why + ": part(" + k + ", 1)", 0, x.part(k, 1));
    }
    Check.same(why + ": read()", 0, x.read());
  }
}

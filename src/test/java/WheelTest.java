/** Promises 25 and 26, and what a WHEEL does behind a TICK. */
public final class WheelTest {
  private static final int NONE = CoarseSteps.NONE;

  public static void main(String[] args) {
    byHand();
    byTimes();
    noneAndAll();
    promise25Part();
    promise26Spread();
    Check.end();
  }

  private static CoarseSteps wheel(int parts, int rule) {
    CoarseSteps x = new CoarseSteps();
    x.steps(8, -1, 0, 1, 2, 3, 4, 5, 50);
    x.loop(4, parts, rule);
    return x;
  }

  private static void partsAre(CoarseSteps x, String on, int... times) {
    for (int k = 0; k < times.length; k++) {
      Check.same("part(" + k + ", 0)", on.charAt(k) == '1' ? 1 : 0, x.part(k, 0));
      Check.same("part(" + k + ", 1)", times[k], x.part(k, 1));
    }
  }

  private static void byHand() {
    Check.heading("rule 0");
    CoarseSteps x = wheel(5, 0);
    Check.same("tick(3)", 3, x.tick(3));
    partsAre(x, "11100", 1, 1, 1, 0, 0);
    Check.same("about(8)", 3, x.about(8));
    Check.same("tick(4)", 4, x.tick(4));
    partsAre(x, "11011", 2, 2, 1, 1, 1);
    Check.same("about(8)", 2, x.about(8));
    Check.same("tick(0)", 0, x.tick(0));
    partsAre(x, "00000", 2, 2, 1, 1, 1);
    Check.same("about(8) stays", 2, x.about(8));
    Check.same("tick(5)", 5, x.tick(5));
    partsAre(x, "11111", 3, 3, 2, 2, 2);
    Check.same("about(8): around to itself", 2, x.about(8));
    Check.same("tick(3)", 3, x.tick(3));
    partsAre(x, "00111", 3, 3, 3, 3, 3);
    Check.same("about(8): behind the last is the first", 0, x.about(8));
  }

  private static void byTimes() {
    Check.heading("rule 1");
    CoarseSteps x = wheel(4, 1);
    x.tick(3);
    partsAre(x, "1110", 1, 1, 1, 0);
    x.tick(2);
    partsAre(x, "1001", 2, 1, 1, 1);
    x.tick(1);
    partsAre(x, "0100", 2, 2, 1, 1);
    x.tick(3);
    partsAre(x, "1011", 3, 2, 2, 2);
    x.tick(4);
    partsAre(x, "1111", 4, 3, 3, 3);
    Check.same("about(8)", 0, x.about(8));
    x.tick(1);
    partsAre(x, "0100", 4, 4, 3, 3);
  }

  private static void noneAndAll() {
    Check.heading("none and all");
    for (int rule = 0; rule <= 1; rule++) {
      CoarseSteps x = wheel(3, rule);
      x.tick(2);
      Check.same("tick(-1)", -1, x.tick(-1));
      partsAre(x, "000", 1, 1, 0);
      Check.same("about(8)", rule == 0 ? 2 : 0, x.about(8));
      Check.same("tick(50)", 50, x.tick(50));
      partsAre(x, "111", 2, 2, 1);
      Check.same("about(8)", rule == 0 ? 2 : 0, x.about(8));
      Check.same("was(0, 0): as GIVEN", 50, x.was(0, 0));
      x.tick(1);
      partsAre(x, "001", 2, 2, 2);
    }
  }

  private static void promise25Part() {
    Check.heading("promise 25");
    CoarseSteps x = wheel(16, 0);
    x.tick(50);
    partsAre(x, "1111111111111111", 1, 1, 1, 1, 1, 1, 1, 1, 1, 1, 1, 1, 1, 1, 1, 1);
    int[] wrong = {-1, 16, Integer.MAX_VALUE, Integer.MIN_VALUE};
    for (int k : wrong) {
      Check.same("part(" + k + ", 0)", NONE, x.part(k, 0));
      Check.same("part(" + k + ", 1)", NONE, x.part(k, 1));
    }
    Check.same("part(0, 2)", NONE, x.part(0, 2));
    Check.same("part(0, -1)", NONE, x.part(0, -1));
    x.loop(4, 2, 0);
    partsAre(x, "00", 0, 0);
    Check.same("part(2, 0) of two", NONE, x.part(2, 0));
    int[][] others = {{0, 0}, {1, 0}, {2, 4}, {3, 3}};
    for (int[] other : others) {
      x.loop(other[0], other[1], 0);
      x.tick(50);
      Check.same("part(0, 0) of KIND " + other[0], NONE, x.part(0, 0));
      Check.same("part(0, 1) of KIND " + other[0], NONE, x.part(0, 1));
    }
  }

  private static void promise26Spread() {
    Check.heading("promise 26");
    CoarseSteps x = new CoarseSteps();
    Check.same("spread() of a FIRST", NONE, x.spread());
    x = wheel(3, 0);
    Check.same("spread() at first", 0, x.spread());
    x.tick(2);
    Check.same("spread()", 1, x.spread());
    x.tick(1);
    Check.same("spread()", 0, x.spread());
    x.run(100, 2);
    Check.same("spread() by the HAND", 1, x.spread());
    x.steps(3, 0, 1, 2, 0, 0, 0, 0, 0);
    Check.same("spread() anew", 0, x.spread());
    int[][] others = {{0, 0}, {1, 0}, {2, 4}, {3, 3}};
    for (int[] other : others) {
      x.loop(other[0], other[1], 0);
      Check.same("spread() of KIND " + other[0], NONE, x.spread());
    }
    x.loop(4, 2, 1);
    x.run(10000, 1);
    x.tick(1);
    Check.same("spread() by rule 1", 1, x.spread());
    Check.same("part(0, 1)", 5001, x.part(0, 1));
    Check.same("part(1, 1)", 5000, x.part(1, 1));
  }
}

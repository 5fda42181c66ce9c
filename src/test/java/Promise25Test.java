/** Promise 25: part, and how a WHEEL turns. */
public final class Promise25Test {
  private static final int NONE = Bench.NONE;

  public static void main(String[] args) {
    offAndNeverOn();
    fromTheHandOn();
    aroundFromTheLastToTheFirst();
    theLeastOftenOn();
    theLeastNumberFirst();
    noneIfBelowZero();
    allIfMore();
    exactlyAll();
    fewestAndMostParts();
    partsThereAreNot();
    anotherWhat();
    otherKindsHaveNone();
    refusedTicksDoNotTurn();
    anew();
    nothingChanges();
    the512thCall();
    Check.end();
  }

  private static CoarseSteps wheel(int parts, int rule) {
    CoarseSteps x = Bench.over(1, -1, 0, 1, 2, 3, 4, 5, 50);
    x.loop(4, parts, rule);
    return x;
  }

  private static void partsAre(CoarseSteps x, String on, int... times) {
    for (int k = 0; k < times.length; k++) {
      Check.same("part(" + k + ", 0)", on.charAt(k) == '1' ? 1 : 0, x.part(k, 0));
      Check.same("part(" + k + ", 1)", times[k], x.part(k, 1));
    }
  }

  private static void offAndNeverOn() {
    Check.sentence(25, "what 0: 1 if it is ON, 1: how often it was: before all");
    partsAre(wheel(4, 0), "0000", 0, 0, 0, 0);
    partsAre(wheel(4, 1), "0000", 0, 0, 0, 0);
  }

  private static void fromTheHandOn() {
    Check.sentence(25, "those from a HAND on (0 at first), which then stands behind the last");
    CoarseSteps x = wheel(5, 0);
    Check.same("tick(1)", 1, x.tick(1));
    partsAre(x, "10000", 1, 0, 0, 0, 0);
    Check.same("about(8)", 1, x.about(8));
    Check.same("tick(2)", 2, x.tick(2));
    partsAre(x, "01100", 1, 1, 1, 0, 0);
    Check.same("about(8)", 3, x.about(8));
    Check.same("tick(0)", 0, x.tick(0));
    partsAre(x, "00000", 1, 1, 1, 0, 0);
    Check.same("about(8): none, so it stays", 3, x.about(8));
  }

  private static void aroundFromTheLastToTheFirst() {
    Check.sentence(25, "around from the last to the first");
    CoarseSteps x = wheel(5, 0);
    Bench.ticks(x, 3, 4);
    partsAre(x, "11011", 2, 2, 1, 1, 1);
    Check.same("about(8)", 2, x.about(8));
    x.tick(3);
    partsAre(x, "00111", 2, 2, 2, 2, 2);
    Check.same("about(8): behind the last is the first", 0, x.about(8));
  }

  private static void theLeastOftenOn() {
    Check.sentence(25, "those that were ON least often so far");
    CoarseSteps x = wheel(4, 1);
    Bench.ticks(x, 3);
    partsAre(x, "1110", 1, 1, 1, 0);
    x.tick(2);
    partsAre(x, "1001", 2, 1, 1, 1);
    x.tick(1);
    partsAre(x, "0100", 2, 2, 1, 1);
    x.tick(3);
    partsAre(x, "1011", 3, 2, 2, 2);
    Check.same("about(8): there is no HAND", 0, x.about(8));
  }

  private static void theLeastNumberFirst() {
    Check.sentence(25, "the least number first of as many");
    CoarseSteps x = wheel(4, 1);
    x.tick(1);
    partsAre(x, "1000", 1, 0, 0, 0);
    x.tick(1);
    partsAre(x, "0100", 1, 1, 0, 0);
    x.tick(4);
    partsAre(x, "1111", 2, 2, 1, 1);
    x.tick(3);
    partsAre(x, "1011", 3, 2, 2, 2);
    x.tick(2);
    partsAre(x, "0110", 3, 3, 3, 2);
    x.tick(1);
    partsAre(x, "0001", 3, 3, 3, 3);
    x.tick(1);
    partsAre(x, "1000", 4, 3, 3, 3);
  }

  private static void noneIfBelowZero() {
    Check.sentence(25, "none if it is below 0");
    for (int rule = 0; rule <= 1; rule++) {
      CoarseSteps x = wheel(3, rule);
      x.tick(2);
      Check.same("tick(-1)", -1, x.tick(-1));
      partsAre(x, "000", 1, 1, 0);
      Check.same("about(8)", rule == 0 ? 2 : 0, x.about(8));
      Check.same("was(0, 0)", -1, x.was(0, 0));
    }
  }

  private static void allIfMore() {
    Check.sentence(25, "all if it is more");
    for (int rule = 0; rule <= 1; rule++) {
      CoarseSteps x = wheel(3, rule);
      x.tick(2);
      Check.same("tick(50)", 50, x.tick(50));
      partsAre(x, "111", 2, 2, 1);
      Check.same("about(8): all around", rule == 0 ? 2 : 0, x.about(8));
      Check.same("tick(4): one more than there are", 4, x.tick(4));
      partsAre(x, "111", 3, 3, 2);
      x.tick(1);
      partsAre(x, "001", 3, 3, 3);
    }
  }

  private static void exactlyAll() {
    Check.sentence(25, "as many are ON as is GIVEN: all of them");
    for (int rule = 0; rule <= 1; rule++) {
      CoarseSteps x = wheel(5, rule);
      x.tick(2);
      x.tick(5);
      partsAre(x, "11111", 2, 2, 1, 1, 1);
      Check.same("about(8): around to itself", rule == 0 ? 2 : 0, x.about(8));
      x.tick(4);
      partsAre(x, "10111", 3, 2, 2, 2, 2);
    }
  }

  private static void fewestAndMostParts() {
    Check.sentence(25, "n PARTS (2 .. 16)");
    for (int rule = 0; rule <= 1; rule++) {
      CoarseSteps x = wheel(16, rule);
      x.tick(50);
      partsAre(x, "1111111111111111", 1, 1, 1, 1, 1, 1, 1, 1, 1, 1, 1, 1, 1, 1, 1, 1);
      Bench.ticks(x, 5, 5, 5);
      Check.same("part(14, 0)", 1, x.part(14, 0));
      Check.same("part(15, 0)", 0, x.part(15, 0));
      x.tick(2);
      Check.same("part(15, 1)", 2, x.part(15, 1));
      Check.same("part(0, 1)", 3, x.part(0, 1));
      Check.same("about(8)", rule == 0 ? 1 : 0, x.about(8));
      x = wheel(2, rule);
      x.tick(1);
      partsAre(x, "10", 1, 0);
      x.tick(1);
      partsAre(x, "01", 1, 1);
      x.tick(3);
      partsAre(x, "11", 2, 2);
    }
  }

  private static void partsThereAreNot() {
    Check.sentence(25, "NONE if there is none such");
    for (int parts : new int[] {2, 3, 16}) {
      CoarseSteps x = wheel(16, 0);
      x.tick(50);
      x.loop(4, parts, 0);
      x.tick(50);
      for (int k : new int[] {-1, parts, 16, Integer.MAX_VALUE, Integer.MIN_VALUE}) {
        Check.same("part(" + k + ", 0) of " + parts, NONE, x.part(k, 0));
        Check.same("part(" + k + ", 1) of " + parts, NONE, x.part(k, 1));
      }
      Check.same("part(" + (parts - 1) + ", 0)", 1, x.part(parts - 1, 0));
    }
  }

  private static void anotherWhat() {
    Check.sentence(25, "NONE if there is none such: another what");
    CoarseSteps x = wheel(3, 0);
    x.tick(50);
    for (int what : new int[] {-1, 2, Integer.MAX_VALUE, Integer.MIN_VALUE}) {
      Check.same("part(0, " + what + ")", NONE, x.part(0, what));
    }
  }

  private static void otherKindsHaveNone() {
    Check.sentence(25, "Of PART k of a WHEEL");
    int[][] others = {{0, 0}, {1, 0}, {2, 4}, {3, 3}};
    for (int[] other : others) {
      CoarseSteps x = wheel(16, 0);
      x.tick(50);
      x.loop(other[0], other[1], 0);
      x.tick(50);
      for (int k = -1; k <= 16; k++) {
        Check.same("part(" + k + ", 0) of KIND " + other[0], NONE, x.part(k, 0));
        Check.same("part(" + k + ", 1) of KIND " + other[0], NONE, x.part(k, 1));
      }
    }
  }

  private static void refusedTicksDoNotTurn() {
    Check.sentence(25, "behind each TICK: not behind one that is not done");
    for (int rule = 0; rule <= 1; rule++) {
      CoarseSteps x = Bench.loop(4, 3, rule);
      x.start(0, Bench.MOST_SUM);
      x.tick(1);
      x.tick(2);
      x.tick(1000001);
      partsAre(x, "100", 1, 0, 0);
    }
  }

  private static void anew() {
    Check.sentence(25, "A LOOP begins anew: HAND 0, PARTS OFF and never ON");
    for (int rule = 0; rule <= 1; rule++) {
      CoarseSteps x = wheel(3, rule);
      x.tick(2);
      x.over(1);
      partsAre(x, "000", 0, 0, 0);
      x.tick(1);
      partsAre(x, "100", 1, 0, 0);
    }
  }

  private static void nothingChanges() {
    Check.sentence(25, "nothing is changed by it");
    Bench.unchangedBy(x -> {
      x.part(0, 0);
      x.part(1, 1);
      x.part(16, 0);
      x.part(0, 2);
    });
  }

  private static void the512thCall() {
    Check.sentence(25, "at most 512 calls after it has been made: how often it was by then");
    CoarseSteps x = wheel(16, 1);
    for (int k = 1; k <= 508; k++) {
      x.run(10000, 50);
    }
    Check.same("part(15, 1), the 512th call", 5080000, x.part(15, 1));
  }
}

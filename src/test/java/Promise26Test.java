/** Promise 26: spread. */
public final class Promise26Test {
  public static void main(String[] args) {
    beforeAll();
    mostLessLeast();
    wherePartsStand();
    behindMany();
    noWheel();
    anew();
    nothingChanges();
    Check.end();
  }

  private static CoarseSteps wheel(int parts, int rule) {
    CoarseSteps x = Bench.over(1, -1, 0, 1, 2, 3, 4, 5, 50);
    x.loop(4, parts, rule);
    return x;
  }

  private static void beforeAll() {
    Check.sentence(26, "How much oftener: none was ON yet");
    Check.same("spread()", 0, wheel(2, 0).spread());
    Check.same("spread()", 0, wheel(16, 1).spread());
  }

  private static void mostLessLeast() {
    Check.sentence(26, "the one that was ON most than the one least");
    for (int rule = 0; rule <= 1; rule++) {
      CoarseSteps x = wheel(3, rule);
      x.tick(2);
      Check.same("spread() of 1 1 0", 1, x.spread());
      x.tick(-1);
      Check.same("spread() of 1 1 0, all OFF", 1, x.spread());
      x.tick(1);
      Check.same("spread() of 1 1 1", 0, x.spread());
      x.tick(50);
      Check.same("spread() of 2 2 2", 0, x.spread());
    }
  }

  private static void wherePartsStand() {
    Check.sentence(26, "the most and the least may be any: the first, the last, of 16 too");
    for (int parts : new int[] {2, 3, 15, 16}) {
      CoarseSteps x = wheel(parts, 0);
      for (int k = 0; k < 2 * parts; k++) {
        Check.same("spread() behind " + k, k % parts == 0 ? 0 : 1, x.spread());
        x.tick(1);
      }
    }
  }

  private static void behindMany() {
    Check.sentence(26, "how often it was, behind very many TICKS");
    CoarseSteps x = Bench.loop(4, 2, 1);
    for (int k = 0; k < 50; k++) {
      x.run(10000, 1);
    }
    x.tick(1);
    Check.same("spread()", 1, x.spread());
    Check.same("part(0, 1)", 250001, x.part(0, 1));
    Check.same("part(1, 1)", 250000, x.part(1, 1));
  }

  private static void noWheel() {
    Check.sentence(26, "NONE if it is no WHEEL");
    int[][] others = {{0, 0}, {1, 0}, {2, 4}, {3, 3}};
    for (int[] other : others) {
      CoarseSteps x = wheel(3, 0);
      x.tick(2);
      x.loop(other[0], other[1], 0);
      x.tick(2);
      Check.same("spread() of KIND " + other[0], Bench.NONE, x.spread());
    }
    Check.same("spread() of a new object", Bench.NONE, new CoarseSteps().spread());
  }

  private static void anew() {
    Check.sentence(26, "A LOOP begins anew: PARTS never ON");
    CoarseSteps x = wheel(3, 0);
    x.tick(2);
    x.over(1);
    Check.same("spread()", 0, x.spread());
    x = wheel(16, 0);
    x.tick(5);
    x.loop(4, 2, 0);
    Check.same("spread() of fewer PARTS", 0, x.spread());
  }

  private static void nothingChanges() {
    Check.sentence(26, "nothing is changed by it");
    Bench.unchangedBy(x -> x.spread());
  }
}

/** Promise 18: word. */
public final class Promise18Test {
  private static final int NONE = Bench.NONE;

  public static void main(String[] args) {
    leastAndGreatestWish();
    noSuchWish();
    leastAndGreatestPlace();
    noSuchPlace();
    cutLessCut();
    asAFirst();
    whateverStepsThereAre();
    nothingChanges();
    Check.end();
  }

  private static void leastAndGreatestWish() {
    Check.sentence(18, "a wish W, of 0 .. D - 1");
    for (int d : new int[] {1, 2, 3, 9999, 10000}) {
      CoarseSteps x = Bench.over(d);
      Check.same("word(0, 5) over " + d, 0, x.word(0, 5));
      Check.same("word(D - 1, 0) over " + d, 0, x.word(d - 1, 0));
      Check.same("word(D - 1, 1) over " + d, d > 1 ? (2 * d - 2) / d : 0, x.word(d - 1, 1));
    }
  }

  private static void noSuchWish() {
    Check.sentence(18, "a wish W, of 0 .. D - 1; NONE if one can't be");
    for (int d : new int[] {1, 2, 3, 10000}) {
      CoarseSteps x = Bench.over(d);
      for (int w : new int[] {-1, d, d + 1, Integer.MAX_VALUE, Integer.MIN_VALUE}) {
        for (int k = 0; k <= 4; k++) {
          Check.same("word(" + w + ", " + k + ") over " + d, NONE, x.word(w, k));
        }
      }
    }
  }

  private static void leastAndGreatestPlace() {
    Check.sentence(18, "k 0 .. 1000000");
    CoarseSteps x = Bench.over(10000);
    Check.same("word(9999, 0)", 0, x.word(9999, 0));
    Check.same("word(9999, 999999)", 1, x.word(9999, 999999));
    Check.same("word(9999, 1000000)", 0, x.word(9999, 1000000));
    x.over(1001);
    // 1000001 is 999 * 1001 + 2: two wishes more, of which 501 makes a whole and 500 does not.
    Check.same("word(500, 1000000)", 0, x.word(500, 1000000));
    Check.same("word(501, 1000000)", 1, x.word(501, 1000000));
  }

  private static long cut(long k, long w, long d) {
    return k * w / d;
  }

  private static void noSuchPlace() {
    Check.sentence(18, "NONE if one can't be (k 0 .. 1000000)");
    CoarseSteps x = Bench.over(10000);
    for (int k : new int[] {-1, 1000001, Integer.MAX_VALUE, Integer.MIN_VALUE}) {
      Check.same("word(0, " + k + ")", NONE, x.word(0, k));
      Check.same("word(9999, " + k + ")", NONE, x.word(9999, k));
      Check.same("word(10000, " + k + ")", NONE, x.word(10000, k));
    }
  }

  private static void cutLessCut() {
    Check.sentence(18, "(k + 1) * W / D cut less k * W / D cut");
    CoarseSteps x = Bench.over(9973);
    for (int w : new int[] {1, 2, 4986, 4987, 9972}) {
      for (int k : new int[] {0, 1, 2, 4986, 9971, 9972, 9973, 214748, 214749, 999999}) {
        long due = cut(k + 1, w, 9973) - cut(k, w, 9973);
        Check.same("word(" + w + ", " + k + ")", due, x.word(w, k));
      }
    }
  }

  private static void asAFirst() {
    Check.sentence(18, "step k (from 0 on) of a FIRST that begins with SUM 0");
    for (int d = 1; d <= 12; d++) {
      for (int w = 0; w < d; w++) {
        CoarseSteps x = Bench.over(d);
        for (int k = 0; k < 40; k++) {
          Check.same("word(" + w + ", " + k + ") over " + d, x.tick(w), x.word(w, k));
        }
      }
    }
  }

  private static void whateverStepsThereAre() {
    Check.sentence(18, "with the two STEPS 0 and 1 (whatever STEPS there are)");
    for (int[] kind : Bench.kinds()) {
      CoarseSteps x = Bench.over(7, 5, 9, 20);
      x.loop(kind[0], kind[1], kind[2]);
      x.start(0, 3);
      x.run(2, 5);
      for (int k = 0; k < 20; k++) {
        Check.same("word(3, " + k + ")", 3 * (k + 1) / 7 - 3 * k / 7, x.word(3, k));
      }
      Check.same("about(5): nothing changes", 2, x.about(5));
    }
  }

  private static void nothingChanges() {
    Check.sentence(18, "nothing is changed by it");
    Bench.unchangedBy(x -> {
      x.word(3, 1000000);
      x.word(0, 0);
      x.word(4, 0);
      x.word(0, -1);
      x.word(-1, -1);
    });
  }
}

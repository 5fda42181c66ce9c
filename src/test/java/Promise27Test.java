/** Promise 27: about. */
public final class Promise27Test {
  public static void main(String[] args) {
    eachWhat();
    leastAndGreatest();
    sumsOfEachKind();
    partsWithout();
    ticksAndTicksKept();
    handWithout();
    handOfAWheel();
    anotherWhat();
    nothingChanges();
    the512thCall();
    Check.end();
  }

  private static void aboutIs(CoarseSteps x, int... due) {
    for (int what = 0; what < due.length; what++) {
      Check.same("about(" + what + ")", due[what], x.about(what));
    }
  }

  private static void eachWhat() {
    Check.sentence(27, "D, STEPS, KIND, SUMS, PARTS, TICKS, TICKS kept, weights, HAND");
    CoarseSteps x = Bench.over(3, 0, 1, 2, 3);
    x.loop(4, 5, 0);
    x.weight(1);
    x.weight(2);
    x.run(259, 1);
    aboutIs(x, 3, 4, 4, 1, 5, 259, 256, 2, 1);
  }

  private static void leastAndGreatest() {
    Check.sentence(27, "the least and the most of each");
    aboutIs(new CoarseSteps(), 1, 2, 0, 1, 0, 0, 0, 0, 0);
    CoarseSteps x = Bench.over(10000, 0, 1, 2, 3, 4, 5, 6, 7);
    x.loop(4, 16, 0);
    for (int k = 0; k < 64; k++) {
      x.weight(0);
    }
    x.start(0, 70000);
    x.run(2, 75000);
    aboutIs(x, 10000, 8, 4, 1, 16, 2, 2, 64, 14);
  }

  private static void sumsOfEachKind() {
    Check.sentence(27, "2: KIND, 3: SUMS");
    for (int[] kind : Bench.kinds()) {
      CoarseSteps x = Bench.loop(kind[0], kind[1], kind[2]);
      int due = kind[0] == 1 ? 2 : kind[0] == 2 || kind[0] == 3 ? kind[1] : 1;
      Check.same("about(2)", kind[0], x.about(2));
      Check.same("about(3)", due, x.about(3));
    }
  }

  private static void partsWithout() {
    Check.sentence(27, "4: PARTS (0 without)");
    for (int[] kind : Bench.kinds()) {
      CoarseSteps x = Bench.loop(4, 9, 0);
      x.loop(kind[0], kind[1], kind[2]);
      Check.same("about(4) of KIND " + kind[0], kind[0] == 4 ? kind[1] : 0, x.about(4));
    }
  }

  private static void ticksAndTicksKept() {
    Check.sentence(27, "5: TICKS, 6: TICKS kept");
    CoarseSteps x = new CoarseSteps();
    int[] many = {1, 254, 1, 1, 1, 255, 10000};
    int all = 0;
    for (int n : many) {
      x.run(n, 1);
      all += n;
      Check.same("about(5)", all, x.about(5));
      Check.same("about(6)", Math.min(all, 256), x.about(6));
    }
    x.tick(1000001);
    Check.same("about(5): what is not done is none", all, x.about(5));
    x.over(1);
    Check.same("about(5) anew", 0, x.about(5));
    Check.same("about(6) anew", 0, x.about(6));
    x.start(0, Bench.MOST_SUM);
    x.tick(2);
    Check.same("about(5): what is not done is none", 0, x.about(5));
    Check.same("about(6): what is not done is none", 0, x.about(6));
  }

  private static void handWithout() {
    Check.sentence(27, "8: HAND (0 without)");
    for (int[] kind : Bench.kinds()) {
      CoarseSteps x = Bench.loop(4, 9, 0);
      x.tick(1);
      x.loop(kind[0], kind[1], kind[2]);
      x.tick(2);
      boolean has = kind[0] == 4 && kind[2] == 0;
      Check.same("about(8) of KIND " + kind[0], has ? 1 : 0, x.about(8));
    }
  }

  private static void handOfAWheel() {
    Check.sentence(27, "8: HAND: from 0 to the last PART and around");
    for (int parts : new int[] {2, 16}) {
      CoarseSteps x = Bench.loop(4, parts, 0);
      for (int k = 1; k <= 2 * parts; k++) {
        x.tick(1);
        Check.same("about(8) of " + parts, k % parts, x.about(8));
      }
    }
  }

  private static void anotherWhat() {
    Check.sentence(27, "NONE for another what");
    CoarseSteps x = Bench.busy(4, 3, 0);
    for (int what : new int[] {-1, 9, 10, Integer.MAX_VALUE, Integer.MIN_VALUE}) {
      Check.same("about(" + what + ")", Bench.NONE, x.about(what));
    }
  }

  private static void nothingChanges() {
    Check.sentence(27, "nothing is changed by it");
    Bench.unchangedBy(x -> {
      for (int what = -1; what <= 9; what++) {
        x.about(what);
      }
    });
  }

  private static void the512thCall() {
    Check.sentence(27, "at most 512 calls after it has been made: how many TICKS were by then");
    CoarseSteps x = new CoarseSteps();
    for (int k = 1; k <= 511; k++) {
      x.run(10000, 1);
    }
    Check.same("about(5), the 512th call", 5110000, x.about(5));
  }
}

/** Promise 10: was. */
public final class Promise10Test {
  private static final int REFUSED = Bench.REFUSED;

  public static void main(String[] args) {
    beforeAll();
    givenAndWish();
    zeroIsTheLatest();
    theLast256AreKept();
    asManyAsThereWere();
    whatElse();
    noneSuch();
    refusedTicksAreNotKept();
    anewNoneAreKept();
    nothingChanges();
    Check.end();
  }

  private static void beforeAll() {
    Check.sentence(10, "REFUSED if there is none such kept: no TICKS were");
    CoarseSteps x = new CoarseSteps();
    Check.same("was(0, 0)", REFUSED, x.was(0, 0));
    Check.same("was(0, 1)", REFUSED, x.was(0, 1));
    Check.same("was(255, 0)", REFUSED, x.was(255, 0));
  }

  private static void givenAndWish() {
    Check.sentence(10, "what 0: what was GIVEN, 1: the wish");
    int[] wishes = {1, 0, -2, 2, 5};
    int[] given = {1, 0, 0, 0, 1};
    CoarseSteps x = new CoarseSteps();
    Bench.ticks(x, wishes);
    for (int k = 0; k < 5; k++) {
      Check.same("was(" + k + ", 0)", given[4 - k], x.was(k, 0));
      Check.same("was(" + k + ", 1)", wishes[4 - k], x.was(k, 1));
    }
    x = Bench.over(1, 1, 2);
    x.loop(3, 3, 0);
    x.tick(1);
    Check.same("was(0, 0) of a ROW: all of what is GIVEN", 3, x.was(0, 0));
    x.loop(4, 2, 0);
    x.start(0, 50);
    Bench.tell(x, -5, 40);
    x.tick(50);
    Check.same("was(0, 0) of a WHEEL: not the PARTS", 40, x.was(0, 0));
  }

  private static void zeroIsTheLatest() {
    Check.sentence(10, "the k-th latest TICK (0 the latest)");
    CoarseSteps x = new CoarseSteps();
    for (int w = 1; w <= 20; w++) {
      x.tick(w);
      Check.same("was(0, 1)", w, x.was(0, 1));
      Check.same("was(" + (w - 1) + ", 1)", 1, x.was(w - 1, 1));
      Check.same("was(" + w + ", 1)", REFUSED, x.was(w, 1));
    }
  }

  private static void theLast256AreKept() {
    Check.sentence(10, "The last 256 TICKS are kept");
    for (int all : new int[] {256, 257, 300, 511, 512, 513, 10000}) {
      CoarseSteps x = new CoarseSteps();
      x.run(all - 100, 3);
      for (int k = 1; k <= 100; k++) {
        x.tick(-k);
      }
      for (int k = 0; k < 100; k++) {
        Check.same("was(" + k + ", 1) of " + all, k - 100, x.was(k, 1));
      }
      for (int k = 100; k < 256; k++) {
        Check.same("was(" + k + ", 1) of " + all, 3, x.was(k, 1));
      }
      Check.same("was(256, 0) of " + all, REFUSED, x.was(256, 0));
      Check.same("was(256, 1) of " + all, REFUSED, x.was(256, 1));
    }
  }

  private static void asManyAsThereWere() {
    Check.sentence(10, "REFUSED if there is none such kept: beyond as many as there were");
    for (int all : new int[] {1, 2, 254, 255, 256}) {
      CoarseSteps x = new CoarseSteps();
      x.tick(77);
      x.run(all - 1, 1);
      Check.same("was(" + (all - 1) + ", 1)", 77, x.was(all - 1, 1));
      Check.same("was(" + all + ", 0)", REFUSED, x.was(all, 0));
      Check.same("was(" + all + ", 1)", REFUSED, x.was(all, 1));
    }
  }

  private static void whatElse() {
    Check.sentence(10, "REFUSED if there is none such: another what");
    CoarseSteps x = new CoarseSteps();
    x.tick(3);
    for (int what : new int[] {-1, 2, Integer.MAX_VALUE, Integer.MIN_VALUE}) {
      Check.same("was(0, " + what + ")", REFUSED, x.was(0, what));
    }
  }

  private static void noneSuch() {
    Check.sentence(10, "REFUSED if there is none such kept: no such k");
    CoarseSteps x = new CoarseSteps();
    x.run(300, 3);
    for (int k : new int[] {-1, 256, 257, 299, 300, -256, Integer.MAX_VALUE, Integer.MIN_VALUE}) {
      Check.same("was(" + k + ", 0)", REFUSED, x.was(k, 0));
      Check.same("was(" + k + ", 1)", REFUSED, x.was(k, 1));
    }
  }

  private static void refusedTicksAreNotKept() {
    Check.sentence(10, "a TICK that is not done is not kept");
    CoarseSteps x = Bench.firstFrom(1, Bench.MOST_SUM);
    x.tick(1);
    x.tick(2);
    x.tick(1000001);
    Check.same("was(0, 1)", 1, x.was(0, 1));
    Check.same("was(1, 1)", REFUSED, x.was(1, 1));
  }

  private static void anewNoneAreKept() {
    Check.sentence(10, "A LOOP begins anew: no TICKS");
    CoarseSteps x = new CoarseSteps();
    x.run(300, 3);
    x.over(1);
    Check.same("was(0, 1)", REFUSED, x.was(0, 1));
    x.tick(4);
    Check.same("was(0, 1)", 4, x.was(0, 1));
    Check.same("was(1, 1)", REFUSED, x.was(1, 1));
  }

  private static void nothingChanges() {
    Check.sentence(10, "nothing is changed by it");
    Bench.unchangedBy(x -> {
      x.was(0, 0);
      x.was(3, 1);
      x.was(4, 1);
      x.was(0, 2);
      x.was(-1, 0);
    });
  }
}

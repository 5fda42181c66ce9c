/** Promise 2: over. */
public final class Promise02Test {
  public static void main(String[] args) {
    leastAndGreatest();
    tooSmallAndTooLarge();
    refusedDoesNothing();
    loopBeginsAnew();
    theSameOverBeginsAnewToo();
    allElseStays();
    nothingElseChanges();
    Check.end();
  }

  private static void leastAndGreatest() {
    Check.sentence(2, "D (1 .. 10000)");
    CoarseSteps x = new CoarseSteps();
    for (int d : new int[] {10000, 1, 2, 9999}) {
      Check.yes("over(" + d + ")", x.over(d));
      Check.same("about(0)", d, x.about(0));
      x.start(0, d - 1L);
      Check.same("tick(0) from D - 1", 0, x.tick(0));
      Check.same("tick(1): D is reached", 1, x.tick(1));
      Check.same("sum(0)", 0, x.sum(0));
    }
  }

  private static void tooSmallAndTooLarge() {
    Check.sentence(2, "false, if it can't be");
    CoarseSteps x = new CoarseSteps();
    for (int d : new int[] {0, 10001, -1, -10000, Integer.MAX_VALUE, Integer.MIN_VALUE}) {
      Check.no("over(" + d + ")", x.over(d));
      Check.same("about(0)", 1, x.about(0));
    }
  }

  private static void refusedDoesNothing() {
    Check.sentence(2, "doing nothing");
    Bench.unchangedBy(x -> x.over(0));
    Bench.unchangedBy(x -> x.over(10001));
  }

  private static void loopBeginsAnew() {
    Check.sentence(2, "the LOOP begins anew");
    for (int[] kind : Bench.kinds()) {
      CoarseSteps x = Bench.busy(kind[0], kind[1], kind[2]);
      x.over(7);
      Bench.begunAnew("KIND " + kind[0], x);
      Check.yes("start(0, 3): no TICKS were", x.start(0, 3));
    }
  }

  private static void theSameOverBeginsAnewToo() {
    Check.sentence(2, "the LOOP begins anew, over the same D");
    for (int[] kind : Bench.kinds()) {
      CoarseSteps x = Bench.busy(kind[0], kind[1], kind[2]);
      Check.yes("over(4)", x.over(4));
      Bench.begunAnew("KIND " + kind[0], x);
    }
    // The STEPS of TICKS before do not count any more.
    Bench.sameBehind(x -> x.over(4), x -> {
      x.over(4);
      x.run(20, 3);
      x.over(4);
    });
  }

  private static void allElseStays() {
    Check.sentence(2, "D; the LOOP begins anew");
    CoarseSteps x = Bench.busy(4, 3, 1);
    x.box(0, 0, 4);
    x.over(4);
    x.start(0, 10);
    x.ring(1);
    x.over(5);
    int[] due = {5, 5, 4, 1, 3, 0, 0, 2, 0};
    for (int what = 0; what < due.length; what++) {
      Check.same("about(" + what + ")", due[what], x.about(what));
    }
    Check.same("tail()", 1, x.tail());
    Check.same("kept(0, 5): the BOX", 1, x.kept(0, 5));
    Check.same("kept(0, 30): the BOX", 0, x.kept(0, 30));
    x.tick(10);
    x.tick(5);
    Check.same("part(2, 0): the RULE", 1, x.part(2, 0));
    Check.same("about(8): the RULE", 0, x.about(8));
    Check.same("read(): the FILTER", 3 - 10, x.read());
    tablesStay();
  }

  private static void tablesStay() {
    CoarseSteps x = Bench.loop(2, 1, 0);
    x.table(0, 4, 3);
    x.table(4, 4, 2);
    x.over(2);
    Check.same("tick(1): g", 1, x.tick(1));
    Check.same("sum(0): b", 3, x.sum(0));
  }

  private static void nothingElseChanges() {
    Check.sentence(2, "D; the LOOP begins anew: nothing else, as by steps()");
    Bench.sameBehind(x -> Bench.tell(x, -1, 0, 1, 2, 5), x -> x.over(4));
    Bench.sameBehind(x -> Bench.tell(x, -1, 0, 1, 2, 5), x -> {
      x.over(7);
      x.over(4);
    });
  }
}

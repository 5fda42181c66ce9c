/** Promises 1, 2, 3, 27 and 28: a new object, D and STEPS, and what is told about it all. */
public final class ScaleTest {
  private static final int NO_STEP = CoarseSteps.REFUSED;

  public static void main(String[] args) {
    promise1NewObject();
    promise2OverTakesItsSpanAlone();
    promise2OverBeginsAnew();
    promise3StepsTakesWhatGoesUp();
    promise3StepsRefusesTheRest();
    promise3StepsBeginsAnew();
    promise27About();
    promise28Step();
    Check.end();
  }

  private static void promise1NewObject() {
    Check.heading("promise 1");
    CoarseSteps x = new CoarseSteps();
    int[] due = {1, 2, 0, 1, 0, 0, 0, 0, 0};
    for (int what = 0; what < due.length; what++) {
      Check.same("about(" + what + ")", due[what], x.about(what));
    }
    Check.same("step(0)", 0, x.step(0));
    Check.same("step(1)", 1, x.step(1));
    Check.same("sum(0)", 0, x.sum(0));
    Check.same("tail()", 0, x.tail());
    Check.same("read()", 0, x.read());
    Check.same("was(0, 0)", CoarseSteps.REFUSED, x.was(0, 0));
    Check.same("tick(1)", 1, x.tick(1));
    Check.same("clear()", 0, x.clear());
    Check.same("NONE", -1, CoarseSteps.NONE);
    Check.same("REFUSED", Integer.MIN_VALUE, CoarseSteps.REFUSED);
  }

  private static void promise2OverTakesItsSpanAlone() {
    Check.heading("promise 2");
    CoarseSteps x = new CoarseSteps();
    int[] wrong = {0, -1, 10001, Integer.MAX_VALUE, Integer.MIN_VALUE};
    int[] right = {10000, 2, 1, 9999};
    for (int d : right) {
      Check.yes("over(" + d + ")", x.over(d));
      Check.same("about(0)", d, x.about(0));
      for (int bad : wrong) {
        Check.no("over(" + bad + ")", x.over(bad));
        Check.same("about(0)", d, x.about(0));
      }
    }
  }

  private static void promise2OverBeginsAnew() {
    Check.heading("promise 2, anew");
    CoarseSteps x = new CoarseSteps();
    x.loop(4, 3, 0);
    x.weight(7);
    x.start(0, 9);
    x.tick(1);
    Check.no("over(0)", x.over(0));
    Check.same("sum(0) after a refused over", 9, x.sum(0));
    Check.same("about(5) after a refused over", 1, x.about(5));
    Check.yes("over(1), as it was", x.over(1));
    Check.same("sum(0)", 0, x.sum(0));
    Check.same("about(5)", 0, x.about(5));
    Check.same("about(6)", 0, x.about(6));
    Check.same("about(8)", 0, x.about(8));
    Check.same("part(0, 0)", 0, x.part(0, 0));
    Check.same("part(0, 1)", 0, x.part(0, 1));
    Check.same("was(0, 0)", CoarseSteps.REFUSED, x.was(0, 0));
    Check.same("about(2), the KIND stays", 4, x.about(2));
    Check.same("about(4), the PARTS stay", 3, x.about(4));
    Check.same("about(7), the FILTER stays", 1, x.about(7));
    Check.yes("start(0, 3), as no TICKS were", x.start(0, 3));
  }

  private static void promise3StepsTakesWhatGoesUp() {
    Check.heading("promise 3");
    CoarseSteps x = new CoarseSteps();
    Check.yes("8 of them", x.steps(8, -100, -99, -5, 0, 1, 7, 99, 100));
    int[] due = {-100, -99, -5, 0, 1, 7, 99, 100};
    Check.same("about(1)", 8, x.about(1));
    for (int k = 0; k < due.length; k++) {
      Check.same("step(" + k + ")", due[k], x.step(k));
    }
    Check.yes("2, the others do not count", x.steps(2, 5, 6, 6, -1000, 2000, 0, 0, 0));
    Check.same("about(1)", 2, x.about(1));
    Check.same("step(0)", 5, x.step(0));
    Check.same("step(1)", 6, x.step(1));
    Check.same("step(2)", NO_STEP, x.step(2));
    Check.same("tick(-7): the least, as none is at most V", 5, x.tick(-7));
    Check.same("sum(0)", -12, x.sum(0));
  }

  private static void promise3StepsRefusesTheRest() {
    Check.heading("promise 3, wrong ones");
    CoarseSteps x = new CoarseSteps();
    x.steps(3, -2, 0, 3, 0, 0, 0, 0, 0);
    x.tick(1);
    Check.no("n 1", x.steps(1, 0, 1, 2, 3, 4, 5, 6, 7));
    Check.no("n 9", x.steps(9, 0, 1, 2, 3, 4, 5, 6, 7));
    Check.no("n 0", x.steps(0, 0, 1, 2, 3, 4, 5, 6, 7));
    Check.no("n least", x.steps(Integer.MIN_VALUE, 0, 1, 2, 3, 4, 5, 6, 7));
    Check.no("n most", x.steps(Integer.MAX_VALUE, 0, 1, 2, 3, 4, 5, 6, 7));
    Check.no("alike at the end", x.steps(8, 0, 1, 2, 3, 4, 5, 6, 6));
    Check.no("alike at the beginning", x.steps(3, 1, 1, 2, 0, 0, 0, 0, 0));
    Check.no("going down at the beginning", x.steps(2, 1, 0, 0, 0, 0, 0, 0, 0));
    Check.no("going down", x.steps(3, 0, 2, 1, 0, 0, 0, 0, 0));
    Check.no("too great", x.steps(2, 0, 101, 0, 0, 0, 0, 0, 0));
    Check.no("too small", x.steps(2, -101, 0, 0, 0, 0, 0, 0, 0));
    Check.same("about(1)", 3, x.about(1));
    Check.same("step(0)", -2, x.step(0));
    Check.same("step(1)", 0, x.step(1));
    Check.same("step(2)", 3, x.step(2));
    Check.same("about(5)", 1, x.about(5));
    Check.same("sum(0)", 1, x.sum(0));
  }

  private static void promise3StepsBeginsAnew() {
    Check.heading("promise 3, anew");
    CoarseSteps x = new CoarseSteps();
    x.loop(3, 3, 0);
    x.over(4);
    x.run(5, 3);
    Check.yes("as they were", x.steps(2, 0, 1, 0, 0, 0, 0, 0, 0));
    for (int k = 0; k < 3; k++) {
      Check.same("sum(" + k + ")", 0, x.sum(k));
    }
    Check.same("about(5)", 0, x.about(5));
    Check.same("about(6)", 0, x.about(6));
    Check.same("about(0), D stays", 4, x.about(0));
    Check.same("tick(1), as from the beginning", 0, x.tick(1));
    Check.same("tick(1), as from the beginning", 1, x.tick(1));
  }

  private static void promise27About() {
    Check.heading("promise 27");
    CoarseSteps x = new CoarseSteps();
    x.over(3);
    x.steps(4, 0, 1, 2, 3, 0, 0, 0, 0);
    x.loop(4, 5, 0);
    x.weight(1);
    x.weight(2);
    x.run(259, 1);
    int[] due = {3, 4, 4, 1, 5, 259, 256, 2, 1};
    for (int what = 0; what < due.length; what++) {
      Check.same("about(" + what + ")", due[what], x.about(what));
    }
    int[] wrong = {-1, 9, Integer.MAX_VALUE, Integer.MIN_VALUE};
    for (int what : wrong) {
      Check.same("about(" + what + ")", CoarseSteps.NONE, x.about(what));
    }
    x.loop(1, 0, 0);
    Check.same("about(3) of TWO", 2, x.about(3));
    Check.same("about(4) of TWO", 0, x.about(4));
    Check.same("about(8) of TWO", 0, x.about(8));
    x.loop(2, 4, 0);
    Check.same("about(2) of TABLES", 2, x.about(2));
    Check.same("about(3) of TABLES", 4, x.about(3));
    x.loop(3, 3, 0);
    Check.same("about(2) of a ROW", 3, x.about(2));
    Check.same("about(3) of a ROW", 3, x.about(3));
    x.loop(4, 2, 1);
    x.tick(3);
    Check.same("about(8): rule 1 has no HAND", 0, x.about(8));
  }

  private static void promise28Step() {
    Check.heading("promise 28");
    CoarseSteps x = new CoarseSteps();
    x.steps(3, -4, -1, 2, 0, 0, 0, 0, 0);
    Check.same("step(0)", -4, x.step(0));
    Check.same("step(1)", -1, x.step(1));
    Check.same("step(2)", 2, x.step(2));
    int[] wrong = {-1, 3, 7, 8, Integer.MAX_VALUE, Integer.MIN_VALUE};
    for (int k : wrong) {
      Check.same("step(" + k + ")", NO_STEP, x.step(k));
    }
  }
}

/** Promise 3: steps. */
public final class Promise03Test {
  public static void main(String[] args) {
    fewestAndMost();
    tooFewAndTooMany();
    leastAndGreatest();
    tooSmallAndTooGreat();
    alikeAreRefused();
    goingDownIsRefused();
    onlyTheFirstCount();
    refusedDoesNothing();
    loopBeginsAnew();
    fewerForgetTheOthers();
    nothingElseChanges();
    Check.end();
  }

  private static void stepsAre(CoarseSteps x, int... due) {
    Check.same("about(1)", due.length, x.about(1));
    for (int k = 0; k < due.length; k++) {
      Check.same("step(" + k + ")", due[k], x.step(k));
    }
    Check.same("step(" + due.length + ")", Bench.REFUSED, x.step(due.length));
  }

  private static void fewestAndMost() {
    Check.sentence(3, "STEPS are 2 to 8");
    int[] all = {-9, -4, -1, 0, 2, 3, 7, 20};
    for (int n = 2; n <= 8; n++) {
      CoarseSteps x = new CoarseSteps();
      int[] some = java.util.Arrays.copyOf(all, n);
      Check.yes("steps of " + n, Bench.tell(x, some));
      stepsAre(x, some);
    }
  }

  private static void tooFewAndTooMany() {
    Check.sentence(3, "STEPS are 2 to 8; false, if they can't be");
    CoarseSteps x = new CoarseSteps();
    for (int n : new int[] {1, 9, 0, -1, Integer.MAX_VALUE, Integer.MIN_VALUE}) {
      Check.no("steps(" + n + ", ..)", x.steps(n, 10, 11, 12, 13, 14, 15, 16, 17));
      stepsAre(x, 0, 1);
    }
  }

  private static void leastAndGreatest() {
    Check.sentence(3, "whole numbers -100 .. 100");
    CoarseSteps x = new CoarseSteps();
    Check.yes("-100 and 100", Bench.tell(x, -100, 100));
    stepsAre(x, -100, 100);
    Check.yes("-100 and -99", Bench.tell(x, -100, -99));
    stepsAre(x, -100, -99);
    Check.yes("99 and 100", Bench.tell(x, 99, 100));
    stepsAre(x, 99, 100);
    Check.yes("eight of them", Bench.tell(x, -100, -99, -1, 0, 1, 2, 99, 100));
    stepsAre(x, -100, -99, -1, 0, 1, 2, 99, 100);
  }

  private static void tooSmallAndTooGreat() {
    Check.sentence(3, "whole numbers -100 .. 100; false, if they can't be");
    CoarseSteps x = new CoarseSteps();
    Check.no("-101 and 0", Bench.tell(x, -101, 0));
    Check.no("0 and 101", Bench.tell(x, 0, 101));
    Check.no("-102 and -101", Bench.tell(x, -102, -101));
    Check.no("101 and 102", Bench.tell(x, 101, 102));
    Check.no("101 at the end of eight", Bench.tell(x, 0, 1, 2, 3, 4, 5, 6, 101));
    Check.no("-101 at the beginning of eight", Bench.tell(x, -101, 1, 2, 3, 4, 5, 6, 7));
    Check.no("least and most int", Bench.tell(x, Integer.MIN_VALUE, Integer.MAX_VALUE));
    stepsAre(x, 0, 1);
  }

  private static void alikeAreRefused() {
    Check.sentence(3, "different whole numbers");
    CoarseSteps x = new CoarseSteps();
    for (int n = 2; n <= 8; n++) {
      for (int k = 1; k < n; k++) {
        int[] s = upTo(n);
        s[k] = s[k - 1];
        Check.no(n + ", alike at " + k, Bench.tell(x, s));
      }
    }
    stepsAre(x, 0, 1);
  }

  private static void goingDownIsRefused() {
    Check.sentence(3, "or do not go up");
    CoarseSteps x = new CoarseSteps();
    for (int n = 2; n <= 8; n++) {
      for (int k = 1; k < n; k++) {
        int[] s = upTo(n);
        int lower = s[k - 1];
        s[k - 1] = s[k];
        s[k] = lower;
        Check.no(n + ", down at " + k, Bench.tell(x, s));
      }
    }
    stepsAre(x, 0, 1);
  }

  private static int[] upTo(int n) {
    int[] s = new int[n];
    for (int k = 0; k < n; k++) {
      s[k] = 3 * k - 5;
    }
    return s;
  }

  private static void onlyTheFirstCount() {
    Check.sentence(3, "the first n of them");
    CoarseSteps x = new CoarseSteps();
    Check.yes("the others are alike", x.steps(2, 5, 6, 6, 6, 6, 6, 6, 6));
    stepsAre(x, 5, 6);
    Check.yes("the others go down", x.steps(3, 5, 6, 8, 0, -1, -2, -3, -4));
    stepsAre(x, 5, 6, 8);
    int most = Integer.MAX_VALUE;
    int least = Integer.MIN_VALUE;
    Check.yes("the others are far", x.steps(4, 1, 2, 3, 4, most, least, 101, -101));
    stepsAre(x, 1, 2, 3, 4);
    Check.yes("the last of eight is far", x.steps(7, 1, 2, 3, 4, 5, 6, 7, 101));
    stepsAre(x, 1, 2, 3, 4, 5, 6, 7);
  }

  private static void refusedDoesNothing() {
    Check.sentence(3, "doing nothing");
    Bench.unchangedBy(x -> {
      x.steps(1, 7, 8, 9, 10, 11, 12, 13, 14);
      x.steps(9, 7, 8, 9, 10, 11, 12, 13, 14);
      x.steps(8, 7, 8, 9, 10, 11, 12, 13, 13);
      x.steps(8, 7, 8, 9, 10, 11, 12, 13, 101);
    });
  }

  private static void loopBeginsAnew() {
    Check.sentence(3, "the LOOP begins anew");
    for (int[] kind : Bench.kinds()) {
      CoarseSteps x = Bench.busy(kind[0], kind[1], kind[2]);
      Check.yes("as they were", Bench.tell(x, -1, 0, 1, 2, 5));
      Bench.begunAnew("KIND " + kind[0], x);
      Check.same("about(0), D stays", 4, x.about(0));
      Check.same("about(2), KIND stays", kind[0], x.about(2));
      Check.same("about(7), weights stay", 2, x.about(7));
    }
    Bench.sameBehind(x -> x.over(4), x -> Bench.tell(x, -1, 0, 1, 2, 5));
  }

  private static void fewerForgetTheOthers() {
    Check.sentence(3, "STEPS are these");
    CoarseSteps x = new CoarseSteps();
    Bench.tell(x, 0, 1, 2, 3, 4, 5, 6, 7);
    Bench.tell(x, -2, -1);
    stepsAre(x, -2, -1);
    Check.same("tick(7): 7 is no STEP now", -1, x.tick(7));
  }

  private static void nothingElseChanges() {
    Check.sentence(3, "STEPS are these; the LOOP begins anew: nothing else, as by over()");
    Bench.sameBehind(x -> x.over(4), x -> {
      Bench.tell(x, 7, 8);
      Bench.tell(x, -1, 0, 1, 2, 5);
    });
  }
}

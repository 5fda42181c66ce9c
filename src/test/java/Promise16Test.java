/** Promise 16: box. */
public final class Promise16Test {
  private static final long MOST = Bench.MOST_SUM;

  public static void main(String[] args) {
    zeroToZeroAtFirst();
    endsOfASum();
    leastIsMost();
    leastAboveMost();
    leastAndGreatestEnds();
    beyondTheBounds();
    sumsThereAreNot();
    refusedDoesNothing();
    nothingElseChanges();
    staysWithAsManySums();
    goesWithAnotherNumberOfSums();
    Check.end();
  }

  /** TABLES that leave all SUMS as they are, so that each BOX is KEPT, but for those they can't. */
  private static CoarseSteps still(int n) {
    CoarseSteps x = Bench.loop(2, n, 0);
    for (int k = 0; k < n; k++) {
      x.table(k, k, 1);
    }
    return x;
  }

  private static void zeroToZeroAtFirst() {
    Check.sentence(16, "0 to 0 at first, for each");
    for (int[] kind : Bench.kinds()) {
      CoarseSteps x = Bench.loop(kind[0], kind[1], kind[2]);
      Check.same("kept(0, 0), KIND " + kind[0], 1, x.kept(0, 0));
    }
    for (int n = 1; n <= 4; n++) {
      for (int k = 0; k < n; k++) {
        CoarseSteps x = Bench.loop(2, n, 0);
        x.table(k, 4, 1);
        Check.same("kept(0, 0), SUM " + k + " of " + n, 1, x.kept(0, 0));
        Check.same("kept(1, 1), SUM " + k + " of " + n, 0, x.kept(1, 1));
        Check.same("kept(-1, -1), SUM " + k + " of " + n, 0, x.kept(-1, -1));
      }
    }
  }

  private static void endsOfASum() {
    Check.sentence(16, "The BOX has these ends for a SUM");
    for (int k = 0; k < 4; k++) {
      CoarseSteps x = Bench.loop(2, 4, 0);
      x.table(k, 4, 1);
      Check.yes("box(" + k + ", -3, 5)", x.box(k, -3, 5));
      Check.same("kept(-3, 5)", 1, x.kept(-3, 5));
      Check.same("kept(-4, 5)", 0, x.kept(-4, 5));
      Check.same("kept(-3, 6)", 0, x.kept(-3, 6));
      Check.yes("box(" + k + ", 0, 2), another time", x.box(k, 0, 2));
      Check.same("kept(0, 2)", 1, x.kept(0, 2));
      Check.same("kept(-1, 2)", 0, x.kept(-1, 2));
      Check.same("kept(0, 3)", 0, x.kept(0, 3));
    }
  }

  private static void leastIsMost() {
    Check.sentence(16, "false, if least is above most: alike they can be");
    CoarseSteps x = new CoarseSteps();
    Check.yes("box(0, 2, 2)", x.box(0, 2, 2));
    Check.same("kept(1, 1): 2 to 2", 1, x.kept(1, 1));
    Check.same("kept(0, 0)", 0, x.kept(0, 0));
  }

  private static void leastAboveMost() {
    Check.sentence(16, "false, if least is above most");
    CoarseSteps x = new CoarseSteps();
    Check.no("box(0, 3, 2)", x.box(0, 3, 2));
    Check.no("box(0, 0, -1)", x.box(0, 0, -1));
    Check.no("box(0, MOST, -MOST)", x.box(0, MOST, -MOST));
  }

  private static void leastAndGreatestEnds() {
    Check.sentence(16, "the bounds of a TICK");
    CoarseSteps x = new CoarseSteps();
    Check.yes("box(0, -MOST, MOST)", x.box(0, -MOST, MOST));
    Check.same("kept(0, 0): too many places", Bench.NOT_TOLD, x.kept(0, 0));
    Check.yes("box(0, MOST, MOST)", x.box(0, MOST, MOST));
    Check.same("kept(1, 1)", 1, x.kept(1, 1));
    Check.yes("box(0, -MOST, -MOST)", x.box(0, -MOST, -MOST));
    Check.same("kept(0, 0)", 1, x.kept(0, 0));
  }

  private static void beyondTheBounds() {
    Check.sentence(16, "false, if one is beyond the bounds of a TICK");
    CoarseSteps x = new CoarseSteps();
    long[][] wrong = {{0, MOST + 1}, {-MOST - 1, 0}, {MOST + 1, MOST + 1}, {-MOST - 1, -MOST - 1},
      {-MOST - 1, MOST + 1}, {Long.MIN_VALUE, Long.MAX_VALUE}, {0, Long.MAX_VALUE},
      {Long.MIN_VALUE, 0}, {Long.MAX_VALUE, Long.MIN_VALUE}};
    for (long[] ends : wrong) {
      Check.no("box(0, " + ends[0] + ", " + ends[1] + ")", x.box(0, ends[0], ends[1]));
    }
    Check.same("kept(0, 1): it is 0 to 0 yet", 1, x.kept(0, 1));
  }

  private static void sumsThereAreNot() {
    Check.sentence(16, "false, if there is none such");
    for (int[] kind : Bench.kinds()) {
      CoarseSteps x = Bench.loop(kind[0], kind[1], kind[2]);
      int sums = x.about(3);
      for (int k : new int[] {-1, sums, 4, Integer.MAX_VALUE, Integer.MIN_VALUE}) {
        Check.no("box(" + k + ", 0, 0) of KIND " + kind[0], x.box(k, 0, 0));
      }
      for (int k = 0; k < sums; k++) {
        Check.yes("box(" + k + ", 0, 0) of KIND " + kind[0], x.box(k, 0, 0));
      }
    }
  }

  private static void refusedDoesNothing() {
    Check.sentence(16, "false, doing nothing");
    Bench.unchangedBy(x -> {
      x.box(0, 9, 8);
      x.box(-1, 9, 9);
      x.box(x.about(3), 9, 9);
      x.box(0, 9, MOST + 1);
      x.box(0, -MOST - 1, 9);
    });
    CoarseSteps x = new CoarseSteps();
    x.box(0, 2, 2);
    x.box(0, 1, 0);
    x.box(0, 0, MOST + 1);
    x.box(0, -MOST - 1, 2);
    Check.same("kept(1, 1): it is 2 to 2 yet", 1, x.kept(1, 1));
    Check.same("kept(0, 0): it is 2 to 2 yet", 0, x.kept(0, 0));
  }

  private static void nothingElseChanges() {
    Check.sentence(16, "The BOX has these ends: nothing else changes");
    Bench.unchangedBy(x -> {
      x.box(0, -5, 7);
      x.box(0, 1, 1);
      x.box(0, 0, 3);
    });
    Bench.unchangedAtFirstBy(x -> {
      x.box(0, -5, 7);
      x.box(0, 0, 0);
    });
  }

  private static void staysWithAsManySums() {
    Check.sentence(16, "they stay until a LOOP of another number of SUMS begins");
    CoarseSteps x = new CoarseSteps();
    x.box(0, 1, 1);
    x.tick(9);
    x.over(1);
    Bench.tell(x, 0, 1);
    oneToOne("behind TICKS, over() and steps()", x);
    x.loop(0, 0, 0);
    oneToOne("another FIRST", x);
    x.loop(4, 5, 0);
    oneToOne("a WHEEL has one SUM, too", x);
    Check.no("a LOOP that can't be", x.loop(2, 5, 0));
    oneToOne("behind it", x);
    x.loop(2, 1, 0);
    x.table(0, 0, 1);
    x.table(0, 4, 1);
    x.table(0, 5, -1);
    x.table(4, 0, 1);
    x.table(4, 4, 1);
    oneToOne("TABLES of one", x);
    staysWithTwoSums();
  }

  private static void staysWithTwoSums() {
    CoarseSteps x = Bench.over(1, 0, 3);
    x.loop(1, 0, 0);
    x.box(1, 3, 3);
    x.box(0, 3, 3);
    Check.same("TWO: 2 s - t by 3 less 3", 1, x.kept(3, 3));
    Check.same("TWO: 2 s - t by 0 less 3", 0, x.kept(0, 0));
    x.loop(3, 2, 0);
    Check.same("a ROW of two: (3,3) by 3", 1, x.kept(3, 3));
    Check.same("a ROW of two: (3,3) by 0 to (0,0)", 0, x.kept(0, 0));
    x.loop(2, 2, 0);
    Check.same("TABLES of two: (3,3) to (0,0)", 0, x.kept(0, 0));
    x.table(0, 4, 3);
    x.table(1, 4, 3);
    Check.same("TABLES of two: 3 W for each", 1, x.kept(1, 1));
  }

  private static void oneToOne(String why, CoarseSteps x) {
    Check.same(why + ": kept(1, 1)", 1, x.kept(1, 1));
    Check.same(why + ": kept(2, 2)", 0, x.kept(2, 2));
    Check.same(why + ": kept(0, 0)", 0, x.kept(0, 0));
  }

  private static void goesWithAnotherNumberOfSums() {
    Check.sentence(16, "until a LOOP of another number of SUMS begins");
    for (int from = 1; from <= 4; from++) {
      for (int to = 1; to <= 4; to++) {
        CoarseSteps x = still(from);
        for (int k = 0; k < from; k++) {
          x.box(k, -1000000, 1000000);
        }
        Check.same("kept(0, 0) of " + from, Bench.NOT_TOLD, x.kept(0, 0));
        x.loop(2, to, 0);
        int due = from == to ? Bench.NOT_TOLD : 1;
        Check.same("kept(0, 0), from " + from + " to " + to, due, x.kept(0, 0));
        x.loop(2, from, 0);
        Check.same("kept(0, 0), and back to " + from, due, x.kept(0, 0));
        x.loop(2, 4, 0);
        due = from == 4 ? due : 1;
        Check.same("kept(0, 0), then to 4", due, x.kept(0, 0));
      }
    }
    CoarseSteps x = new CoarseSteps();
    x.box(0, 1, 1);
    x.loop(1, 0, 0);
    x.loop(0, 0, 0);
    Check.same("kept(1, 1): 0 to 0 again", 1, x.kept(0, 1));
  }
}

import java.util.ArrayList;
import java.util.List;

/** Promise 13: ring. */
public final class Promise13Test {
  private static final long MOST = Bench.MOST_SUM;

  public static void main(String[] args) {
    beatIsTheLeast();
    fromTheSumsAsTheyAre();
    atMost4096();
    notTold();
    aTickIsNotDone();
    theLastTickIsNotDone();
    atTheBoundsButNotBeyond();
    anotherWish();
    leastAndGreatestWish();
    nothingChanges();
    allSumsOfARow();
    allSumsOfTables();
    bothSumsOfTwo();
    aWheelsOne();
    Check.end();
  }

  private static void ringIs(String why, CoarseSteps x, int w, int tail, int beat) {
    Check.same(why + ": ring(" + w + ")", beat, x.ring(w));
    if (beat > 0) {
      Check.same(why + ": tail()", tail, x.tail());
    }
  }

  private static void beatIsTheLeast() {
    Check.sentence(13, "BEAT the least number of TICKS by which they do then");
    for (int d = 1; d <= 60; d++) {
      CoarseSteps x = Bench.over(d);
      for (int w = 0; w <= d; w++) {
        ringIs("over " + d, x, w, 0, d / gcd(d, w));
      }
    }
  }

  private static int gcd(int a, int b) {
    return b == 0 ? a : gcd(b, a % b);
  }

  private static void fromTheSumsAsTheyAre() {
    Check.sentence(13, "TICKS from the SUMS as they are");
    CoarseSteps x = Bench.firstFrom(4, 10);
    ringIs("from 10", x, 1, 3, 4);
    ringIs("from 10", x, 2, 4, 2);
    x.tick(3);
    ringIs("from 9, a TICK later", x, 1, 2, 4);
    x = Bench.firstFrom(4, 10);
    ringIs("from 10", x, 1, 3, 4);
    x.start(0, 0);
    ringIs("from 0: 1 is met at once, where the ring before began", x, 1, 0, 4);
  }

  private static void atMost4096() {
    Check.sentence(13, "it is told if TAIL + BEAT is at most 4096");
    ringIs("0 + 4096", Bench.over(4096), 1, 0, 4096);
    ringIs("1 + 4095", Bench.firstFrom(4095, 4095), 1, 1, 4095);
    ringIs("4095 + 1", Bench.firstFrom(1, 4095), 0, 4095, 1);
    ringIs("4094 + 2", Bench.firstFrom(2, 4094 + 1), 1, 4094, 2);
    ringIs("2048 + 2048", Bench.firstFrom(2048, 2047L * 2049), 1, 2048, 2048);
  }

  private static void notTold() {
    Check.sentence(13, "-2 if it is not told");
    ringIs("0 + 4097", Bench.over(4097), 1, 0, Bench.NOT_TOLD);
    ringIs("2 + 4095", Bench.firstFrom(4095, 8189), 1, 0, Bench.NOT_TOLD);
    ringIs("1 + 4096", Bench.firstFrom(4096, 4096), 1, 0, Bench.NOT_TOLD);
    ringIs("4096 + 1", Bench.firstFrom(1, 4096), 0, 0, Bench.NOT_TOLD);
    ringIs("4095 + 2", Bench.firstFrom(2, 4094 + 2), 1, 0, Bench.NOT_TOLD);
    ringIs("2049 + 2048", Bench.firstFrom(2048, 2047L * 2050), 1, 0, Bench.NOT_TOLD);
    ringIs("0 + 10000", Bench.over(10000), 1, 0, Bench.NOT_TOLD);
    ringIs("a SUM that grows for ever", Bench.over(1), 2, 0, Bench.NOT_TOLD);
    ringIs("a SUM that falls for ever", Bench.over(1), -1, 0, Bench.NOT_TOLD);
  }

  private static void aTickIsNotDone() {
    Check.sentence(13, "-3 if a TICK of these is not done");
    ringIs("the first", Bench.firstFrom(1, MOST), 2, 0, Bench.NOT_DONE);
    ringIs("the second", Bench.firstFrom(1, MOST - 1), 2, 0, Bench.NOT_DONE);
    ringIs("downward", Bench.firstFrom(1, -MOST), -1, 0, Bench.NOT_DONE);
    CoarseSteps x = Bench.loop(3, 2, 0);
    x.start(1, MOST);
    ringIs("a ROW's second", x, 3, 0, Bench.NOT_DONE);
    x = Bench.loop(2, 4, 0);
    x.table(3, 3, 10);
    x.start(3, 1);
    ringIs("TABLES' fourth, times 10 each TICK", x, 0, 0, Bench.NOT_DONE);
    x = Bench.loop(1, 0, 0);
    x.start(0, MOST / 2);
    ringIs("TWO", x, 2, 0, Bench.NOT_DONE);
  }

  private static void theLastTickIsNotDone() {
    Check.sentence(13, "a TICK of these: with at most 4096 TICKS");
    ringIs("TICK 4095", Bench.firstFrom(1, MOST - 4094), 2, 0, Bench.NOT_DONE);
    ringIs("TICK 4096", Bench.firstFrom(1, MOST - 4095), 2, 0, Bench.NOT_DONE);
    ringIs("TICK 4097 is none of these", Bench.firstFrom(1, MOST - 4096), 2, 0, Bench.NOT_TOLD);
    ringIs("TICK 4096", Bench.firstFrom(1, 4095 - MOST), -1, 0, Bench.NOT_DONE);
    ringIs("TICK 4097 is none of these", Bench.firstFrom(1, 4096 - MOST), -1, 0, Bench.NOT_TOLD);
  }

  private static void atTheBoundsButNotBeyond() {
    Check.sentence(13, "a TICK that leads to the bound itself is done");
    ringIs("at -MOST", Bench.firstFrom(1, -MOST), 0, 0, 1);
    ringIs("at MOST", Bench.firstFrom(1, MOST), 1, 0, 1);
  }

  private static void anotherWish() {
    Check.sentence(13, "NONE for another wish");
    CoarseSteps x = Bench.firstFrom(4, 10);
    x.ring(1);
    for (int w : Bench.beyondWishes()) {
      Check.same("ring(" + w + ")", Bench.NONE, x.ring(w));
      Check.same("tail()", 3, x.tail());
    }
  }

  private static void leastAndGreatestWish() {
    Check.sentence(13, "by a wish (-1000000 .. 1000000)");
    CoarseSteps x = Bench.over(10000, -100, 100);
    ringIs("100 each time", x, 1000000, 0, 1);
    ringIs("-100 each time", x, -1000000, 0, 1);
    x = Bench.over(1);
    ringIs("above it", x, 1000000, 0, Bench.NOT_TOLD);
    ringIs("below it", x, -1000000, 0, Bench.NOT_TOLD);
  }

  private static void nothingChanges() {
    Check.sentence(13, "nothing changes");
    Bench.unchangedBy(x -> {
      x.ring(1000000);
      x.ring(-1000000);
      x.ring(2000000);
    });
    Bench.unchangedAtFirstBy(x -> {
      x.ring(1000000);
      x.ring(-1000000);
      x.ring(0);
    });
    Bench.sameBehind(x -> x.ring(2), x -> {
      x.ring(1);
      x.ring(0);
      x.ring(2);
    });
  }

  private static void allSumsOfARow() {
    Check.sentence(13, "all SUMS (of a ROW all of them)");
    CoarseSteps x = Bench.over(4);
    x.loop(3, 2, 0);
    // (1,1) (2,3) (3,2) (0,2) (1,3) (2,1) (3,0) (0,0), then on; the first alone comes by 4.
    ringIs("of two", x, 1, 0, 8);
    x.loop(3, 3, 0);
    int[] due = ringOfRow(4, 1, 0, 0, 0);
    ringIs("of three", x, 1, due[0], due[1]);
    x.start(0, 9);
    x.start(1, 2);
    x.start(2, 7);
    due = ringOfRow(4, 3, 9, 2, 7);
    ringIs("of three", x, 3, due[0], due[1]);
    x = Bench.loop(3, 3, 0);
    x.start(2, 5);
    ringIs("the third comes to rest last", x, 0, 5, 1);
  }

  /** TAIL and BEAT of a ROW of three with STEPS 0 and 1, all its SUMS written down. */
  private static int[] ringOfRow(int d, int w, long... at) {
    List<String> seen = new ArrayList<>();
    for (int k = 0; k < 4000; k++) {
      String text = at[0] + "," + at[1] + "," + at[2];
      if (seen.contains(text)) {
        return new int[] {seen.indexOf(text), k - seen.indexOf(text)};
      }
      seen.add(text);
      long wish = w;
      for (int i = 0; i < 3; i++) {
        long v = at[i] + wish;
        at[i] = v >= d ? v - d : v;
        wish = at[i];
      }
    }
    return new int[] {0, Bench.NOT_TOLD};
  }

  private static void allSumsOfTables() {
    Check.sentence(13, "all SUMS (of TABLES all of them)");
    CoarseSteps x = Bench.loop(2, 3, 0);
    x.table(0, 1, 1);
    x.table(1, 2, 1);
    x.table(2, 0, 1);
    x.start(2, 9);
    ringIs("three that change places", x, 0, 0, 3);
    for (int k = 0; k < 4; k++) {
      x = Bench.loop(2, 4, 0);
      x.table(k, k, -1);
      x.start(k, 6);
      ringIs("SUM " + k + " alone goes to and fro", x, 0, 0, 2);
    }
    x = Bench.loop(2, 4, 0);
    x.table(1, 0, 1);
    x.table(2, 1, 1);
    x.table(3, 2, 1);
    x.start(0, 5);
    ringIs("the 5 goes through all of them", x, 7, 4, 1);
    x = Bench.loop(2, 1, 0);
    ringIs("tables all 0", x, 1000, 0, 1);
  }

  private static void bothSumsOfTwo() {
    Check.sentence(13, "all SUMS come again: TWO");
    CoarseSteps x = Bench.over(4, -1, 0, 1, 2);
    x.loop(1, 0, 0);
    // (1,0) (3,1) (2,3) (2,2) (3,2) (1,3) (0,1) (0,0), then on.
    ringIs("from (0,0)", x, 1, 0, 8);
    x.start(1, 4);
    ringIs("(0,4) (0,0), and there it rests", x, 0, 1, 1);
    x.start(0, 40);
    x.start(1, 20);
    ringIs("from (40,20)", x, 1, ringOfTwo(1, 40, 20)[0], ringOfTwo(1, 40, 20)[1]);
  }

  /** TAIL and BEAT of TWO over 4 with STEPS -1 .. 2, all its SUMS written down. */
  private static int[] ringOfTwo(int w, long s, long t) {
    List<String> seen = new ArrayList<>();
    for (int k = 0; k < 4000; k++) {
      String text = s + "," + t;
      if (seen.contains(text)) {
        return new int[] {seen.indexOf(text), k - seen.indexOf(text)};
      }
      seen.add(text);
      long v = w + 2 * s - t;
      long c = Math.max(-1, Math.min(2, Math.floorDiv(v, 4L)));
      t = s;
      s = v - 4 * c;
    }
    return new int[] {0, Bench.NOT_TOLD};
  }

  private static void aWheelsOne() {
    Check.sentence(13, "a WHEEL's one");
    CoarseSteps x = Bench.over(4);
    x.loop(4, 3, 0);
    ringIs("PARTS and HAND do not count", x, 1, 0, 4);
    Check.same("part(0, 1): nothing turns", 0, x.part(0, 1));
    Check.same("about(8): nothing turns", 0, x.about(8));
  }
}

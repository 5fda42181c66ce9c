/** Promises 13 to 17: rings, leaving, boxes. */
public final class OutlookTest {
  private static final long MOST = 1000000000000L;
  private static final int NONE = CoarseSteps.NONE;
  private static final int NOT_TOLD = -2;

  public static void main(String[] args) {
    promise13RingOfAFirst();
    promise13RingAtItsEdge();
    promise13RingNotDone();
    promise13RingOfOtherKinds();
    promise14Tail();
    promise15Leaves();
    promise15LeavesOfMoreSums();
    promise16Box();
    promise16BoxStaysOrGoes();
    promise17Kept();
    promise17KeptOfMany();
    promise17KeptOfTwoSums();
    Check.end();
  }

  private static CoarseSteps firstOver(int d, long sum) {
    CoarseSteps x = new CoarseSteps();
    x.over(d);
    x.start(0, sum);
    return x;
  }

  private static void promise13RingOfAFirst() {
    Check.heading("promise 13");
    CoarseSteps x = firstOver(4, 10);
    Check.same("ring(1)", 4, x.ring(1));
    Check.same("tail()", 3, x.tail());
    Check.same("ring(2)", 2, x.ring(2));
    Check.same("tail()", 4, x.tail());
    Check.same("sum(0): nothing changes", 10, x.sum(0));
    Check.same("about(5): nothing changes", 0, x.about(5));
    Check.same("ring(1000001)", NONE, x.ring(1000001));
    Check.same("ring(-1000001)", NONE, x.ring(-1000001));
    Check.same("ring(least)", NONE, x.ring(Integer.MIN_VALUE));
    Check.same("ring(most)", NONE, x.ring(Integer.MAX_VALUE));
    Check.same("ring(1000000)", NOT_TOLD, x.ring(1000000));
    Check.same("ring(-1000000)", NOT_TOLD, x.ring(-1000000));
    x.tick(3);
    Check.same("ring(1), a TICK later, sum 9", 4, x.ring(1));
    Check.same("tail(): 9 6 3", 2, x.tail());
  }

  private static void promise13RingAtItsEdge() {
    Check.heading("promise 13, edge");
    Check.same("TAIL 0, BEAT 4096", 4096, firstOver(4096, 0).ring(1));
    Check.same("TAIL 0, BEAT 4097", NOT_TOLD, firstOver(4097, 0).ring(1));
    CoarseSteps x = firstOver(4095, 4095);
    Check.same("TAIL 1, BEAT 4095", 4095, x.ring(1));
    Check.same("tail()", 1, x.tail());
    Check.same("TAIL 2, BEAT 4095", NOT_TOLD, firstOver(4095, 8189).ring(1));
    Check.same("TAIL 1, BEAT 4096", NOT_TOLD, firstOver(4096, 4096).ring(1));
    x = firstOver(1, 4095);
    Check.same("TAIL 4095, BEAT 1", 1, x.ring(0));
    Check.same("tail()", 4095, x.tail());
    Check.same("TAIL 4096, BEAT 1", NOT_TOLD, firstOver(1, 4096).ring(0));
  }

  private static void promise13RingNotDone() {
    Check.heading("promise 13, not done");
    Check.same("the first TICK", -3, firstOver(1, MOST).ring(2));
    Check.same("TICK 4096", -3, firstOver(1, MOST - 4095).ring(2));
    Check.same("TICK 4097", NOT_TOLD, firstOver(1, MOST - 4096).ring(2));
    CoarseSteps x = firstOver(1, -MOST);
    Check.same("downward", -3, x.ring(-1));
    Check.same("at the bound, but never beyond", 1, x.ring(0));
    Check.same("sum(0)", -MOST, x.sum(0));
  }

  private static void promise13RingOfOtherKinds() {
    Check.heading("promise 13, other KINDS");
    CoarseSteps x = new CoarseSteps();
    x.over(4);
    x.loop(4, 3, 0);
    Check.same("a WHEEL's one SUM", 4, x.ring(1));
    Check.same("its PARTS do not turn", 0, x.part(0, 1));
    x.loop(3, 2, 0);
    // (1,1) (2,3) (3,2) (0,2) (1,3) (2,1) (3,0) (0,0), then on.
    Check.same("both SUMS of a ROW", 8, x.ring(1));
    Check.same("tail()", 0, x.tail());
    x.loop(2, 3, 0);
    x.table(0, 1, 1);
    x.table(1, 2, 1);
    x.table(2, 0, 1);
    x.start(2, 9);
    Check.same("three that change places", 3, x.ring(0));
    x.loop(2, 2, 0);
    x.table(1, 0, 1);
    x.start(0, 5);
    Check.same("TABLES that come to rest", 1, x.ring(7));
    Check.same("tail(): (5,0) (0,5) (0,0)", 2, x.tail());
    x.loop(1, 0, 0);
    x.steps(4, -1, 0, 1, 2, 0, 0, 0, 0);
    // (1,0) (3,1) (2,3) (2,2) (3,2) (1,3) (0,1) (0,0), then on.
    Check.same("TWO", 8, x.ring(1));
    Check.same("tail()", 0, x.tail());
    x.start(0, 1);
    x.start(1, 2);
    Check.same("TWO from (1,2)", ringOfTwo(1, 2)[1], x.ring(1));
    Check.same("tail()", ringOfTwo(1, 2)[0], x.tail());
  }

  /** TAIL and BEAT of TWO over 4 with STEPS -1 .. 2 by the wish 1, with all its SUMS written down. */
  private static int[] ringOfTwo(long s, long t) {
    java.util.List<String> seen = new java.util.ArrayList<>();
    for (int k = 0; k < 1000; k++) {
      String at = s + "," + t;
      if (seen.contains(at)) {
        return new int[] {seen.indexOf(at), k - seen.indexOf(at)};
      }
      seen.add(at);
      long v = 1 + 2 * s - t;
      long c = Math.max(-1, Math.min(2, Math.floorDiv(v, 4L)));
      t = s;
      s = v - 4 * c;
    }
    return new int[] {0, -2};
  }

  private static void promise14Tail() {
    Check.heading("promise 14");
    CoarseSteps x = firstOver(4, 10);
    Check.same("tail() at first", 0, x.tail());
    x.ring(1);
    Check.same("tail()", 3, x.tail());
    x.ring(5);
    Check.same("tail(): that one was not told", 3, x.tail());
    x.ring(2000000);
    Check.same("tail(): that was no wish", 3, x.tail());
    x.loop(3, 3, 0);
    Check.same("tail(): another LOOP", 3, x.tail());
    x.start(0, MOST);
    Check.same("ring(1000000)", -3, x.ring(1000000));
    Check.same("tail(): one was not done", 3, x.tail());
    x.over(5);
    x.ring(0);
    Check.same("tail() of the latest", 0, x.tail());
  }

  private static void promise15Leaves() {
    Check.heading("promise 15");
    CoarseSteps x = firstOver(1, 0);
    Check.same("leaves(2, 0)", 1, x.leaves(2, 0));
    Check.same("leaves(2, 7)", 8, x.leaves(2, 7));
    Check.same("leaves(-1, 5)", 6, x.leaves(-1, 5));
    Check.same("leaves(2, 4095)", 4096, x.leaves(2, 4095));
    Check.same("leaves(2, 4096)", NOT_TOLD, x.leaves(2, 4096));
    Check.same("leaves(-1, 4095)", 4096, x.leaves(-1, 4095));
    Check.same("leaves(1, 0)", NOT_TOLD, x.leaves(1, 0));
    Check.same("leaves(1000000, most)", NOT_TOLD, x.leaves(1000000, Long.MAX_VALUE));
    Check.same("leaves(0, -1)", NONE, x.leaves(0, -1));
    Check.same("leaves(0, least)", NONE, x.leaves(0, Long.MIN_VALUE));
    Check.same("leaves(1000001, 5)", NONE, x.leaves(1000001, 5));
    Check.same("leaves(-1000001, 5)", NONE, x.leaves(-1000001, 5));
    Check.same("sum(0): nothing changes", 0, x.sum(0));
    Check.same("about(5): nothing changes", 0, x.about(5));
    x = firstOver(1, 100);
    Check.same("leaves(0, 99): beyond it at first alone", NOT_TOLD, x.leaves(0, 99));
    Check.same("leaves(0, 98): at least one TICK", 1, x.leaves(0, 98));
    x = firstOver(1, MOST - 3);
    Check.same("leaves(2, most): TICK 4 is not done", 4, x.leaves(2, Long.MAX_VALUE));
    Check.same("leaves(2, MOST - 1)", 3, x.leaves(2, MOST - 1));
  }

  private static void promise15LeavesOfMoreSums() {
    Check.heading("promise 15, more SUMS");
    CoarseSteps x = new CoarseSteps();
    x.loop(3, 2, 0);
    Check.same("leaves(2, 5): the second", 4, x.leaves(2, 5));
    x.loop(2, 4, 0);
    x.table(3, 3, -3);
    x.start(3, 1);
    Check.same("leaves(0, 26): 1 -3 9 -27", 3, x.leaves(0, 26));
    Check.same("leaves(0, 27)", 4, x.leaves(0, 27));
    x.loop(0, 0, 0);
    Check.same("leaves(0, 0): SUMS of another LOOP do not count", NOT_TOLD, x.leaves(0, 0));
    x.loop(2, 4, 0);
    for (int k = 0; k < 4; k++) {
      x.table(k, k, 1);
      x.start(k, 9);
      Check.same("leaves(0, 9) of four", NOT_TOLD, x.leaves(0, 9));
      Check.same("leaves(0, 8) of four", 1, x.leaves(0, 8));
    }
  }

  private static void promise16Box() {
    Check.heading("promise 16");
    CoarseSteps x = new CoarseSteps();
    Check.same("kept(0, 1): 0 to 0 at first", 1, x.kept(0, 1));
    Check.yes("box(0, -MOST, MOST)", x.box(0, -MOST, MOST));
    Check.yes("box(0, 2, 2)", x.box(0, 2, 2));
    Check.no("box(0, 3, 2)", x.box(0, 3, 2));
    Check.no("box(0, 0, MOST + 1)", x.box(0, 0, MOST + 1));
    Check.no("box(0, -MOST - 1, 0)", x.box(0, -MOST - 1, 0));
    Check.no("box(0, MOST + 1, MOST + 1)", x.box(0, MOST + 1, MOST + 1));
    Check.no("box(0, -MOST - 1, -MOST - 1)", x.box(0, -MOST - 1, -MOST - 1));
    Check.no("box(0, least, most)", x.box(0, Long.MIN_VALUE, Long.MAX_VALUE));
    Check.no("box(1, 0, 0)", x.box(1, 0, 0));
    Check.no("box(-1, 0, 0)", x.box(-1, 0, 0));
    Check.no("box(most, 0, 0)", x.box(Integer.MAX_VALUE, 0, 0));
    Check.same("kept(1, 1): it is 2 to 2 yet", 1, x.kept(1, 1));
    Check.same("kept(0, 0)", 0, x.kept(0, 0));
    x.loop(2, 3, 0);
    Check.yes("box(2, 0, 0)", x.box(2, 0, 0));
    Check.no("box(3, 0, 0)", x.box(3, 0, 0));
  }

  private static void promise16BoxStaysOrGoes() {
    Check.heading("promise 16, stays");
    CoarseSteps x = new CoarseSteps();
    x.box(0, 1, 1);
    x.loop(4, 5, 0);
    Check.same("a WHEEL has one SUM, too: 1 to 1 by 1", 1, x.kept(1, 1));
    x.over(1);
    x.steps(2, 0, 1, 0, 0, 0, 0, 0, 0);
    x.tick(9);
    Check.same("anew, and TICKS", 1, x.kept(1, 1));
    x.loop(2, 1, 0);
    Check.same("TABLES of one: all become 0", 0, x.kept(1, 1));
    x.table(0, 0, 1);
    Check.same("TABLES of one that stay", 1, x.kept(1, 1));
    Check.no("a LOOP that can't be", x.loop(2, 5, 0));
    Check.same("it stays", 1, x.kept(1, 1));
    x.loop(1, 0, 0);
    x.box(1, 3, 3);
    x.box(0, 3, 3);
    Check.same("TWO: 2 s - t by 1 less 1", 1, x.kept(1, 1));
    x.loop(3, 2, 0);
    Check.same("a ROW of two: (3,3) to (3,5)", 0, x.kept(1, 1));
    x.box(1, 3, 5);
    Check.same("a ROW of two: (3,5) to (3,7)", 0, x.kept(1, 1));
    x.loop(2, 2, 0);
    x.table(0, 0, 1);
    x.table(1, 1, 1);
    Check.same("TABLES of two that stay", 1, x.kept(1, 1));
    x.loop(0, 0, 0);
    Check.same("one SUM: 0 to 0", 1, x.kept(0, 1));
    Check.same("one SUM: 0 to 0", 0, x.kept(2, 2));
    x.loop(2, 2, 0);
    Check.same("two SUMS: 0 to 0 for each", 1, x.kept(-5, 5));
    x.box(0, 0, 1000000);
    x.box(1, -1000000, 0);
    Check.same("two wide spans", NOT_TOLD, x.kept(0, 0));
    x.loop(0, 0, 0);
    Check.same("one SUM: 0 to 0", 1, x.kept(0, 0));
    x.box(0, -1000000, 0);
    x.loop(1, 0, 0);
    Check.same("two SUMS: 0 to 0", 1, x.kept(0, 0));
  }

  private static void promise17Kept() {
    Check.heading("promise 17");
    CoarseSteps x = new CoarseSteps();
    x.over(4);
    x.box(0, 0, 3);
    Check.same("kept(0, 4)", 1, x.kept(0, 4));
    Check.same("kept(4, 4)", 1, x.kept(4, 4));
    Check.same("kept(0, 5)", 0, x.kept(0, 5));
    Check.same("kept(5, 5): from 3 alone", 0, x.kept(5, 5));
    Check.same("kept(-1, -1): from 0 alone", 0, x.kept(-1, -1));
    Check.same("kept(1, 0)", NONE, x.kept(1, 0));
    Check.same("kept(-1000001, 0)", NONE, x.kept(-1000001, 0));
    Check.same("kept(0, 1000001)", NONE, x.kept(0, 1000001));
    Check.same("kept(1000000, 1000000)", 0, x.kept(1000000, 1000000));
    Check.same("kept(extremes)", NONE, x.kept(Integer.MIN_VALUE, Integer.MAX_VALUE));
    Check.same("kept(-1000000, 1000000)", NOT_TOLD, x.kept(-1000000, 1000000));
    Check.same("sum(0): nothing changes", 0, x.sum(0));
    Check.same("about(5): nothing changes", 0, x.about(5));
    x.over(1);
    x.box(0, MOST, MOST);
    Check.same("kept(1, 1) at the bound", 1, x.kept(1, 1));
    Check.same("kept(2, 2): a TICK is refused", 0, x.kept(2, 2));
    x.box(0, -MOST, -MOST);
    Check.same("kept(0, 0) at the lower bound", 1, x.kept(0, 0));
    Check.same("kept(-1, -1): a TICK is refused", 0, x.kept(-1, -1));
  }

  private static void promise17KeptOfMany() {
    Check.heading("promise 17, many");
    CoarseSteps x = new CoarseSteps();
    x.box(0, 0, 99999);
    Check.same("100000 places", 1, x.kept(1, 1));
    Check.same("100000 places, 2 wishes", NOT_TOLD, x.kept(0, 1));
    x.box(0, 0, 100000);
    Check.same("100001 places", NOT_TOLD, x.kept(1, 1));
    x.box(0, 0, 49999);
    Check.same("50000 places, 2 wishes", 1, x.kept(0, 1));
    Check.same("50000 places, 3 wishes", NOT_TOLD, x.kept(-1, 1));
    x.box(0, 0, 0);
    Check.same("1 place, 100000 wishes", 0, x.kept(-99999, 0));
    Check.same("1 place, 100001 wishes", NOT_TOLD, x.kept(-100000, 0));
    x.loop(2, 4, 0);
    for (int k = 0; k < 4; k++) {
      x.box(k, -MOST, MOST);
    }
    Check.same("very many", NOT_TOLD, x.kept(0, 0));
    for (int k = 0; k < 4; k++) {
      x.box(k, -5, 4);
    }
    Check.same("10000 places, 10 wishes", 1, x.kept(1, 10));
    Check.same("10000 places, 11 wishes", NOT_TOLD, x.kept(0, 10));
    x.box(3, 0, 65535);
    x.box(2, 0, 65535);
    x.box(1, 0, 65535);
    x.box(0, 0, 65535);
    Check.same("2 to the 64th", NOT_TOLD, x.kept(0, 0));
  }

  private static void promise17KeptOfTwoSums() {
    Check.heading("promise 17, two SUMS");
    CoarseSteps x = new CoarseSteps();
    x.loop(2, 2, 0);
    x.table(0, 1, 1);
    x.table(1, 0, 1);
    x.box(0, 0, 2);
    x.box(1, 0, 2);
    Check.same("they change places", 1, x.kept(0, 0));
    x.box(1, 0, 3);
    Check.same("(0,3) leads to (3,0)", 0, x.kept(0, 0));
    x.box(1, 1, 2);
    Check.same("(0,1) leads to (1,0)", 0, x.kept(0, 0));
    x.loop(2, 2, 0);
    x.table(4, 0, -1);
    x.table(4, 1, 1);
    x.table(0, 5, 2);
    x.box(0, 0, 1);
    x.box(1, 0, 1);
    Check.same("(0,1) alone leads to (2,0)", 0, x.kept(0, 0));
    x.box(1, 0, 0);
    Check.same("(0,0) and (1,0) do not", 1, x.kept(0, 0));
    x.loop(3, 2, 0);
    x.over(4);
    x.box(0, 0, 3);
    x.box(1, 0, 3);
    Check.same("a ROW of two by 0 .. 4", 1, x.kept(0, 4));
    Check.same("a ROW of two by 0 .. 5", 0, x.kept(0, 5));
  }
}

/** Promise 20: weight. */
public final class Promise20Test {
  private static final int NONE = Bench.NONE;

  public static void main(String[] args) {
    howMany();
    leastAndGreatest();
    tooSmallAndTooGreat();
    behindThoseThereAre();
    upTo64();
    refusedDoesNothing();
    itOutlivesTheLoop();
    nothingElseChanges();
    Check.end();
  }

  private static void howMany() {
    Check.sentence(20, "how many");
    CoarseSteps x = new CoarseSteps();
    Check.same("weight(5)", 1, x.weight(5));
    Check.same("weight(5)", 2, x.weight(5));
    Check.same("weight(0): 0 is one, too", 3, x.weight(0));
    Check.same("about(7)", 3, x.about(7));
  }

  private static void leastAndGreatest() {
    Check.sentence(20, "whole weights (-1000 .. 1000)");
    CoarseSteps x = new CoarseSteps();
    Check.same("weight(1000)", 1, x.weight(1000));
    x.tick(1);
    Check.same("read()", 1000, x.read());
    x.clear();
    Check.same("weight(-1000)", 1, x.weight(-1000));
    Check.same("read()", -1000, x.read());
  }

  private static void tooSmallAndTooGreat() {
    Check.sentence(20, "NONE, if it can't be");
    CoarseSteps x = new CoarseSteps();
    for (int v : new int[] {1001, -1001, Integer.MAX_VALUE, Integer.MIN_VALUE}) {
      Check.same("weight(" + v + ")", NONE, x.weight(v));
      Check.same("about(7)", 0, x.about(7));
    }
  }

  private static void behindThoseThereAre() {
    Check.sentence(20, "behind those there are");
    CoarseSteps x = Bench.over(1, 0, 1, 10);
    Bench.ticks(x, 10, 1);
    x.weight(2);
    Check.same("read()", 2, x.read());
    x.weight(3);
    Check.same("read()", 2 + 30, x.read());
  }

  private static void upTo64() {
    Check.sentence(20, "up to 64; NONE if there are 64");
    CoarseSteps x = new CoarseSteps();
    for (int k = 1; k <= 64; k++) {
      Check.same("weight(" + k + ")", k, x.weight(k));
    }
    Check.same("weight(1) beyond 64", NONE, x.weight(1));
    Check.same("weight(0) beyond 64", NONE, x.weight(0));
    Check.same("about(7)", 64, x.about(7));
    x.run(64, 1);
    Check.same("read()", 64 * 65 / 2, x.read());
    x.clear();
    Check.same("weight(7) behind clear()", 1, x.weight(7));
  }

  private static void refusedDoesNothing() {
    Check.sentence(20, "NONE, doing nothing");
    Bench.unchangedBy(x -> {
      x.weight(1001);
      x.weight(-1001);
    });
    CoarseSteps x = new CoarseSteps();
    x.run(100, 1);
    for (int k = 0; k < 64; k++) {
      x.weight(2);
    }
    x.weight(9);
    Check.same("read() behind the 65th", 128, x.read());
    Check.same("about(5)", 100, x.about(5));
    Check.same("clear()", 64, x.clear());
  }

  private static void itOutlivesTheLoop() {
    Check.sentence(20, "A weight more of the FILTER, whatever LOOP there is");
    CoarseSteps x = new CoarseSteps();
    x.weight(5);
    x.over(2);
    Check.same("weight(6) behind over()", 2, x.weight(6));
    Bench.tell(x, 1, 2);
    Check.same("weight(7) behind steps()", 3, x.weight(7));
    x.loop(3, 2, 0);
    Check.same("weight(8) behind loop()", 4, x.weight(8));
  }

  private static void nothingElseChanges() {
    Check.sentence(20, "A weight more of the FILTER: nothing else changes");
    Bench.unchangedBy(x -> {
      x.weight(7);
      x.clear();
      x.weight(3);
      x.weight(-5);
    });
    Bench.unchangedAtFirstBy(x -> {
      x.weight(7);
      x.clear();
    });
  }
}

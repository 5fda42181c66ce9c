/** Promises 10 to 12 and 18 to 22: what is kept of TICKS, and what is made of it. */
public final class HistoryTest {
  private static final int NONE = CoarseSteps.NONE;

  public static void main(String[] args) {
    promise10Was();
    promise11Behind();
    promise12Missed();
    promise18Word();
    promise18WordIsAFirst();
    promise19Even();
    promise19EvenOfMany();
    promise20Weight();
    promise21Clear();
    promise22Read();
    Check.end();
  }

  private static CoarseSteps afterWishesUpTo(int last) {
    CoarseSteps x = new CoarseSteps();
    x.over(7);
    x.steps(8, 0, 1, 2, 3, 5, 8, 13, 21);
    for (int w = 0; w <= last; w++) {
      x.tick(w);
    }
    return x;
  }

  private static void promise10Was() {
    Check.heading("promise 10");
    CoarseSteps x = new CoarseSteps();
    Check.same("was(0, 0) before all", CoarseSteps.REFUSED, x.was(0, 0));
    Check.same("was(0, 1) before all", CoarseSteps.REFUSED, x.was(0, 1));
    x = afterWishesUpTo(299);
    for (int k = 0; k < 256; k++) {
      Check.same("was(" + k + ", 1)", 299 - k, x.was(k, 1));
    }
    int[] wrong = {-1, 256, 299, Integer.MAX_VALUE, Integer.MIN_VALUE};
    for (int k : wrong) {
      Check.same("was(" + k + ", 0)", CoarseSteps.REFUSED, x.was(k, 0));
      Check.same("was(" + k + ", 1)", CoarseSteps.REFUSED, x.was(k, 1));
    }
    Check.same("was(0, 2)", CoarseSteps.REFUSED, x.was(0, 2));
    Check.same("was(0, -1)", CoarseSteps.REFUSED, x.was(0, -1));
    x.over(1);
    int[] wishes = {1, 0, -2, 2, 5};
    int[] given = {1, 0, 0, 0, 1};
    x.steps(2, 0, 1, 0, 0, 0, 0, 0, 0);
    for (int w : wishes) {
      x.tick(w);
    }
    for (int k = 0; k < 5; k++) {
      Check.same("was(" + k + ", 0)", given[4 - k], x.was(k, 0));
      Check.same("was(" + k + ", 1)", wishes[4 - k], x.was(k, 1));
    }
    Check.same("was(5, 0): a LOOP anew has none", CoarseSteps.REFUSED, x.was(5, 0));
  }

  private static void promise11Behind() {
    Check.heading("promise 11");
    CoarseSteps x = new CoarseSteps();
    Check.same("behind(0) before all", 0, x.behind(0));
    x.start(0, 5);
    Check.same("behind(0): a start is no TICK", 0, x.behind(0));
    x.over(1000);
    x.run(300, 1);
    for (int k = 0; k < 256; k++) {
      Check.same("behind(" + k + ")", 300 - k, x.behind(k));
    }
    int[] wrong = {-1, 256, Integer.MAX_VALUE, Integer.MIN_VALUE};
    for (int k : wrong) {
      Check.same("behind(" + k + ")", 0, x.behind(k));
    }
    x.loop(1, 0, 0);
    x.tick(3);
    x.tick(4);
    Check.same("behind(0): the first of two SUMS", 4 + 2 * 3, x.behind(0));
    Check.same("behind(1)", 3, x.behind(1));
    Check.same("behind(2)", 0, x.behind(2));
  }

  private static void promise12Missed() {
    Check.heading("promise 12");
    CoarseSteps x = new CoarseSteps();
    Check.same("missed(1) before all", 0, x.missed(1));
    x = afterWishesUpTo(299);
    for (int n = 1; n <= 256; n++) {
      long due = 0;
      for (int k = 0; k < n; k++) {
        due += 7L * x.was(k, 0) - x.was(k, 1);
      }
      Check.same("missed(" + n + ")", due, x.missed(n));
    }
    int[] wrong = {0, -1, 257, Integer.MAX_VALUE, Integer.MIN_VALUE};
    for (int n : wrong) {
      Check.same("missed(" + n + ")", 0, x.missed(n));
    }
    x.over(10000);
    x.steps(2, -100, 100, 0, 0, 0, 0, 0, 0);
    x.run(256, -1000000);
    Check.same("missed(256)", 0, x.missed(256));
    x.over(10000);
    x.start(0, 1000000000L);
    x.run(256, -1000000);
    Check.same("missed(256): 100 GIVEN where -100 was wished", 256L * 2000000, x.missed(256));
    x.over(2);
    x.tick(1);
    Check.same("missed(2) with one TICK", 0, x.missed(2));
  }

  private static void promise18Word() {
    Check.heading("promise 18");
    CoarseSteps x = new CoarseSteps();
    Check.same("word(0, 0) over 1", 0, x.word(0, 0));
    Check.same("word(1, 0) over 1", NONE, x.word(1, 0));
    x.over(10000);
    Check.same("word(9999, 0)", 0, x.word(9999, 0));
    Check.same("word(9999, 1)", 1, x.word(9999, 1));
    Check.same("word(9999, 1000000)", 0, x.word(9999, 1000000));
    Check.same("word(9999, 999999)", 1, x.word(9999, 999999));
    Check.same("word(9999, 1000001)", NONE, x.word(9999, 1000001));
    Check.same("word(9999, -1)", NONE, x.word(9999, -1));
    Check.same("word(-1, 0)", NONE, x.word(-1, 0));
    Check.same("word(10000, 0)", NONE, x.word(10000, 0));
    Check.same("word(extremes)", NONE, x.word(Integer.MIN_VALUE, Integer.MAX_VALUE));
    Check.same("word(extremes)", NONE, x.word(Integer.MAX_VALUE, Integer.MIN_VALUE));
  }

  private static void promise18WordIsAFirst() {
    Check.heading("promise 18, as a FIRST");
    for (int d = 1; d <= 12; d++) {
      CoarseSteps other = new CoarseSteps();
      other.over(d);
      other.steps(2, 5, 9, 0, 0, 0, 0, 0, 0);
      for (int w = 0; w < d; w++) {
        CoarseSteps x = new CoarseSteps();
        x.over(d);
        for (int k = 0; k < 40; k++) {
          int due = x.tick(w);
          Check.same("word(" + w + ", " + k + ") over " + d, due, x.word(w, k));
          Check.same("the same with other STEPS", due, other.word(w, k));
        }
      }
    }
  }

  private static void promise19Even() {
    Check.heading("promise 19");
    CoarseSteps x = new CoarseSteps();
    Check.same("even(1) before all", NONE, x.even(1));
    int[] wishes = {0, 0, 1, 1};
    for (int w : wishes) {
      x.tick(w);
    }
    Check.same("even(1)", 1, x.even(1));
    Check.same("even(2)", 1, x.even(2));
    Check.same("even(3): 0 1 1", 1, x.even(3));
    Check.same("even(4): 0 0 1 1", 0, x.even(4));
    int[] wrong = {0, -1, 5, 257, Integer.MAX_VALUE, Integer.MIN_VALUE};
    for (int n : wrong) {
      Check.same("even(" + n + ")", NONE, x.even(n));
    }
    x.steps(4, -1, 0, 1, 2, 0, 0, 0, 0);
    int[] far = {-1, 1};
    for (int w : far) {
      x.tick(w);
    }
    Check.same("even(2): -1 1", 0, x.even(2));
    int[] apart = {2, 1, 1, 1, 2, 1, 1, 0};
    for (int w : apart) {
      x.tick(w);
    }
    Check.same("even(7): 1 1 1 2 1 1 0", 0, x.even(7));
    Check.same("even(6): 1 1 2 1 1 0", 0, x.even(6));
    Check.same("even(3): 1 1 0", 1, x.even(3));
  }

  private static void promise19EvenOfMany() {
    Check.heading("promise 19, many");
    CoarseSteps x = new CoarseSteps();
    x.over(89);
    x.run(300, 34);
    Check.same("even(256) of a FIRST by one wish", 1, x.even(256));
    Check.same("even(257)", NONE, x.even(257));
    x.over(1);
    // The very first 0 is what makes 0 0 1 0 1 0 .. 1 0 1 1 uneven.
    x.tick(0);
    x.tick(0);
    for (int k = 0; k < 126; k++) {
      x.tick(1);
      x.tick(0);
    }
    x.tick(1);
    x.tick(1);
    Check.same("even(255)", 1, x.even(255));
    Check.same("even(256)", 0, x.even(256));
    // Two paces that only stretches of some thirty TICKS tell apart.
    x.over(1000);
    x.run(128, 500);
    x.run(128, 520);
    Check.same("even(256) of two paces", 0, x.even(256));
    Check.same("even(128) of the latter", 1, x.even(128));
    Check.same("even(40) of the latter", 1, x.even(40));
    for (int length = 1; length <= 26; length++) {
      Check.yes("stretches of " + length, evenBy(x, length));
    }
  }

  private static boolean evenBy(CoarseSteps x, int length) {
    int least = Integer.MAX_VALUE;
    int most = Integer.MIN_VALUE;
    for (int from = 0; from + length <= 256; from++) {
      int sum = 0;
      for (int k = from; k < from + length; k++) {
        sum += x.was(k, 0);
      }
      least = Math.min(least, sum);
      most = Math.max(most, sum);
    }
    return most - least <= 1;
  }

  private static void promise20Weight() {
    Check.heading("promise 20");
    CoarseSteps x = new CoarseSteps();
    Check.same("weight(1001)", NONE, x.weight(1001));
    Check.same("weight(-1001)", NONE, x.weight(-1001));
    Check.same("weight(most)", NONE, x.weight(Integer.MAX_VALUE));
    Check.same("weight(least)", NONE, x.weight(Integer.MIN_VALUE));
    Check.same("about(7)", 0, x.about(7));
    for (int k = 1; k <= 64; k++) {
      Check.same("weight", k, x.weight(k % 2 == 0 ? 1000 : -1000));
    }
    Check.same("weight beyond 64", NONE, x.weight(0));
    Check.same("about(7)", 64, x.about(7));
    x.run(64, 1);
    Check.same("read()", 0, x.read());
  }

  private static void promise21Clear() {
    Check.heading("promise 21");
    CoarseSteps x = new CoarseSteps();
    Check.same("clear() of none", 0, x.clear());
    x.weight(3);
    x.weight(4);
    x.tick(1);
    Check.same("clear()", 2, x.clear());
    Check.same("read()", 0, x.read());
    Check.same("about(7)", 0, x.about(7));
    Check.same("clear() again", 0, x.clear());
    Check.same("weight(5)", 1, x.weight(5));
    Check.same("read()", 5, x.read());
  }

  private static void promise22Read() {
    Check.heading("promise 22");
    CoarseSteps x = new CoarseSteps();
    x.steps(5, -2, 0, 1, 3, 100, 0, 0, 0);
    x.weight(1);
    x.weight(-10);
    x.weight(100);
    Check.same("read() before all", 0, x.read());
    x.tick(3);
    Check.same("read() of 3", 3, x.read());
    x.tick(-2);
    Check.same("read() of -2, 3", -2 - 30, x.read());
    x.tick(1);
    x.tick(0);
    Check.same("read() of 0, 1, -2", -10 - 200, x.read());
    x.over(2);
    Check.same("read(): a LOOP anew, the weights stay", 0, x.read());
    x.clear();
    for (int k = 0; k < 64; k++) {
      x.weight(1000);
    }
    x.run(400, 200);
    Check.same("read() of 64", 64L * 1000 * 100, x.read());
  }
}

/**
 * All promises: long rows of drawn calls, each asked of the class and of SlowModel. The draws come
 * from a fixed seed, so that a row that fails once fails again.
 */
public final class ModelTest {
  private static final int RUNS = 2500;
  /** An object is used for 512 calls, and 16 of them are more than one turn asks. */
  private static final int LAST_TURN_FROM = 512 - 16;
  private static final long MOST = 1000000000000L;

  private static final int[] OVERS = {1, 2, 3, 4, 5, 7, 10, 16, 60, 100, 997, 4096, 10000};
  private static final int[] EDGES = {
    0, 1, -1, 2, 3, 4, 5, 8, 63, 64, 65, 255, 256, 257, 4096, 9999, 10000, 10001, 999999, 1000000,
    1000001, -1000000, -1000001, Integer.MAX_VALUE, Integer.MIN_VALUE,
  };
  private static final long[] FAR = {
    MOST, MOST + 1, MOST - 1, MOST - 4096, MOST / 2, -MOST, -MOST - 1, -MOST + 3, Long.MAX_VALUE,
    Long.MIN_VALUE, 0, 100000, 99999,
  };

  private long seed;
  private int asked;
  private CoarseSteps x;
  private SlowModel model;

  public static void main(String[] args) {
    ModelTest test = new ModelTest();
    for (int run = 1; run <= RUNS && !Check.hasFailed(); run++) {
      test.runOf(run);
    }
    Check.end();
  }

  private void runOf(int run) {
    seed = run * 7919L;
    x = new CoarseSteps();
    model = new SlowModel();
    asked = 0;
    while (asked <= LAST_TURN_FROM && !Check.hasFailed()) {
      Check.heading("run " + run + ", call " + (asked + 1) + " or later");
      callSome();
    }
  }

  private void same(String call, long due, long got) {
    asked++;
    Check.same(call, due, got);
  }

  private int draw(int below) {
    seed = seed * 6364136223846793005L + 1442695040888963407L;
    return (int) Long.remainderUnsigned(seed >>> 17, below);
  }

  private int between(int least, int most) {
    return least + draw(most - least + 1);
  }

  private int edgeOr(int usual) {
    return draw(12) == 0 ? EDGES[draw(EDGES.length)] : usual;
  }

  private int wish() {
    int d = model.about(0);
    switch (draw(6)) {
      case 0:
        return edgeOr(between(-3 * d, 3 * d));
      case 1:
        return between(-1000, 1000);
      default:
        return between(0, d);
    }
  }

  private long far() {
    return draw(3) == 0 ? FAR[draw(FAR.length)] : between(-50, 50);
  }

  private void callSome() {
    int which = draw(100);
    if (which < 5) {
      change();
    } else if (which < 35) {
      move();
    } else if (which < 60) {
      look();
    } else if (which < 65) {
      lookFar();
    } else if (which < 80) {
      lookAtBox();
    } else {
      lookAtMore();
    }
  }

  private void change() {
    switch (draw(4)) {
      case 0:
        int d = edgeOr(OVERS[draw(OVERS.length)]);
        same("over(" + d + ")", number(model.over(d)), number(x.over(d)));
        break;
      case 1:
        changeSteps();
        break;
      default:
        int kind = edgeOr(between(0, 4));
        int n = draw(10) == 0 ? between(-1, 17) : usualN(kind);
        int rule = draw(10) == 0 ? between(-1, 2) : kind == 4 ? draw(2) : 0;
        String call = "loop(" + kind + ", " + n + ", " + rule + ")";
        same(call, number(model.loop(kind, n, rule)), number(x.loop(kind, n, rule)));
        if (model.about(2) == 2) {
          fillTables();
        }
        break;
    }
  }

  private int usualN(int kind) {
    return kind == 2 ? between(1, 4) : kind == 3 ? between(2, 3) : kind == 4 ? between(2, 16) : 0;
  }

  private void changeSteps() {
    int[] s = new int[8];
    s[0] = draw(3) == 0 ? between(-100, 60) : between(-3, 1);
    for (int k = 1; k < 8; k++) {
      s[k] = s[k - 1] + (draw(30) == 0 ? between(-1, 60) : between(1, 2));
    }
    int n = draw(8) == 0 ? between(0, 10) : between(2, 8);
    boolean due = model.steps(n, s);
    boolean got = x.steps(n, s[0], s[1], s[2], s[3], s[4], s[5], s[6], s[7]);
    same("steps(" + n + ", " + java.util.Arrays.toString(s) + ")", number(due), number(got));
  }

  private void fillTables() {
    int many = draw(14);
    for (int k = 0; k < many; k++) {
      tellTable();
    }
  }

  private void tellTable() {
    int i = between(-1, 5);
    int j = between(-1, 6);
    int v = draw(10) == 0 ? between(-11, 11) : between(-1, 1);
    String call = "table(" + i + ", " + j + ", " + v + ")";
    same(call, number(model.table(i, j, v)), number(x.table(i, j, v)));
  }

  private void move() {
    int w = wish();
    switch (draw(8)) {
      case 0:
        int n = edgeOr(between(0, 300));
        same("run(" + n + ", " + w + ")", model.run(n, w), x.run(n, w));
        break;
      case 1:
        int sum = between(-1, 4);
        long v = far();
        same("start(" + sum + ", " + v + ")", number(model.start(sum, v)),
            number(x.start(sum, v)));
        break;
      case 2:
        if (draw(4) == 0) {
          tellTable();
        }
        break;
      default:
        same("tick(" + w + ")", model.tick(w), x.tick(w));
        break;
    }
    for (int k = -1; k <= 4; k++) {
      same("sum(" + k + ")", model.sum(k), x.sum(k));
    }
  }

  private void look() {
    int k = edgeOr(between(-1, 20));
    int what = between(-1, 9);
    same("was(" + k + ", 0)", model.was(k, 0), x.was(k, 0));
    same("was(" + k + ", 1)", model.was(k, 1), x.was(k, 1));
    same("was(" + k + ", " + what + ")", model.was(k, what), x.was(k, what));
    same("behind(" + k + ")", model.behind(k), x.behind(k));
    same("missed(" + k + ")", model.missed(k), x.missed(k));
    same("even(" + k + ")", model.even(k), x.even(k));
    same("about(" + what + ")", model.about(what), x.about(what));
    same("step(" + what + ")", model.step(what), x.step(what));
    same("part(" + k + ", 0)", model.part(k, 0), x.part(k, 0));
    same("part(" + k + ", 1)", model.part(k, 1), x.part(k, 1));
    same("part(" + k + ", " + what + ")", model.part(k, what), x.part(k, what));
    same("spread()", model.spread(), x.spread());
    same("read()", model.read(), x.read());
  }

  private void lookFar() {
    int w = wish();
    long bound = draw(4) == 0 ? FAR[draw(FAR.length)] : between(-1, 5000);
    same("ring(" + w + ")", model.ring(w), x.ring(w));
    same("tail()", model.tail(), x.tail());
    same("leaves(" + w + ", " + bound + ")", model.leaves(w, bound), x.leaves(w, bound));
  }

  private void lookAtBox() {
    int w0 = wish();
    int w1 = draw(3) == 0 ? wish() : w0 + draw(5);
    if (draw(2) == 0) {
      int sum = between(-1, 4);
      long least = draw(20) == 0 ? far() : between(-3, 3);
      long most = draw(20) == 0 ? far() : least + between(-1, Math.min(12, model.about(0) + 1));
      String call = "box(" + sum + ", " + least + ", " + most + ")";
      same(call, number(model.box(sum, least, most)), number(x.box(sum, least, most)));
    }
    same("kept(" + w0 + ", " + w1 + ")", model.kept(w0, w1), x.kept(w0, w1));
  }

  private void lookAtMore() {
    int w = wish();
    int k = edgeOr(between(0, 300));
    same("word(" + w + ", " + k + ")", model.word(w, k), x.word(w, k));
    switch (draw(12)) {
      case 0:
        same("clear()", model.clear(), x.clear());
        break;
      case 1:
        int n = edgeOr(between(1, 64));
        int w1 = w + (draw(10) == 0 ? between(1999, 2001) : draw(60));
        String call = "range(" + n + ", " + w + ", " + w1 + ")";
        same(call, model.range(n, w, w1), x.range(n, w, w1));
        break;
      case 2:
        back();
        break;
      default:
        int v = edgeOr(between(-1000, 1000));
        same("weight(" + v + ")", model.weight(v), x.weight(v));
        break;
    }
  }

  private void back() {
    int n = draw(3) == 0 ? edgeOr(1) : between(0, model.about(6));
    int what = draw(8) == 0 ? between(-1, 2) : draw(2);
    same("back(" + n + ", " + what + ")", model.back(n, what), x.back(n, what));
  }

  private static int number(boolean yes) {
    return yes ? 1 : 0;
  }
}

import java.util.ArrayList;
import java.util.Arrays;
import java.util.HashMap;
import java.util.HashSet;
import java.util.List;
import java.util.Map;
import java.util.Set;

/**
 * The document's words, written down as plainly as they go: everything is kept, everything is tried
 * out, nothing is clever. ModelTest asks it the same as the class.
 */
final class SlowModel {
  private static final long MOST = 1000000000000L;

  /** A TICK that was: its wish, what was GIVEN, the first SUM behind it. */
  private record Tick(int wish, int given, long behind) {}

  private int d = 1;
  private int[] steps = {0, 1};
  private int kind = 0;
  private int n = 0;
  private int rule = 0;
  private long[] sums = {0};
  private long[] begunWith = {0};
  private int[][] table = new int[5][6];
  private long[][] box = {{0, 0}};
  private final List<Tick> ticks = new ArrayList<>();
  private final List<int[]> picks = new ArrayList<>();
  private final List<Integer> weights = new ArrayList<>();
  private int hand = 0;
  private Set<Integer> on = new HashSet<>();
  private int[] times = new int[0];
  private int tail = 0;

  private static boolean wish(int w) {
    return Math.abs((long) w) <= 1000000;
  }

  private static boolean inBounds(long v) {
    return -MOST <= v && v <= MOST;
  }

  private int stepFor(long v) {
    int best = steps[0];
    for (int c : steps) {
      if ((long) c * d <= v) {
        best = c;
      }
    }
    return best;
  }

  private void anew() {
    sums = new long[sums.length];
    begunWith = sums.clone();
    ticks.clear();
    picks.clear();
    hand = 0;
    on = new HashSet<>();
    times = new int[kind == 4 ? n : 0];
  }

  boolean over(int newD) {
    if (newD < 1 || newD > 10000) {
      return false;
    }
    d = newD;
    anew();
    return true;
  }

  boolean steps(int many, int... told) {
    if (many < 2 || many > 8) {
      return false;
    }
    int[] some = Arrays.copyOf(told, many);
    for (int k = 0; k < many; k++) {
      if (Math.abs((long) some[k]) > 100 || (k > 0 && some[k - 1] >= some[k])) {
        return false;
      }
    }
    steps = some;
    anew();
    return true;
  }

  boolean loop(int newKind, int newN, int newRule) {
    int[] least = {0, 0, 1, 2, 2};
    int[] most = {0, 0, 4, 3, 16};
    if (newKind < 0 || newKind > 4 || newN < least[newKind] || newN > most[newKind]) {
      return false;
    }
    if (newRule < 0 || newRule > (newKind == 4 ? 1 : 0)) {
      return false;
    }
    kind = newKind;
    n = newN;
    rule = newRule;
    int many = kind == 1 ? 2 : kind == 2 || kind == 3 ? n : 1;
    if (many != sums.length) {
      box = new long[many][2];
    }
    sums = new long[many];
    if (kind == 2) {
      table = new int[5][6];
    }
    anew();
    return true;
  }

  boolean table(int i, int j, int v) {
    boolean a = i >= 0 && i < n && j >= 0 && j < n;
    boolean be = i >= 0 && i < n && (j == 4 || j == 5);
    boolean h = i == 4 && j >= 0 && j < n;
    boolean g = i == 4 && j == 4;
    if (kind != 2 || !(a || be || h || g) || v < -10 || v > 10) {
      return false;
    }
    table[i][j] = v;
    anew();
    return true;
  }

  boolean start(int sum, long v) {
    if (sum < 0 || sum >= sums.length || !inBounds(v) || !ticks.isEmpty()) {
      return false;
    }
    sums[sum] = v;
    begunWith[sum] = v;
    return true;
  }

  /** The SUMS behind a TICK from these, or null if it is not done; the STEPS go into picked. */
  private long[] next(long[] s, int w, int[] picked) {
    long[] to = new long[s.length];
    if (kind == 1) {
      long v = w + 2 * s[0] - s[1];
      picked[0] = stepFor(v);
      to[0] = v - (long) picked[0] * d;
      to[1] = s[0];
    } else if (kind == 2) {
      long v = (long) table[4][4] * w;
      for (int j = 0; j < n; j++) {
        v += table[4][j] * s[j];
      }
      picked[0] = stepFor(v);
      for (int i = 0; i < n; i++) {
        to[i] = (long) table[i][4] * w + (long) table[i][5] * picked[0] * d;
        for (int j = 0; j < n; j++) {
          to[i] += table[i][j] * s[j];
        }
      }
    } else {
      for (int k = 0; k < s.length; k++) {
        long v = s[k] + (k == 0 ? w : to[k - 1]);
        picked[k] = stepFor(v);
        to[k] = v - (long) picked[k] * d;
      }
    }
    for (long sum : to) {
      if (!inBounds(sum)) {
        return null;
      }
    }
    return to;
  }

  private int pick(int back, int which) {
    int at = picks.size() - 1 - back;
    return at < 0 ? 0 : picks.get(at)[which];
  }

  int tick(int w) {
    int[] picked = new int[3];
    long[] to = wish(w) ? next(sums, w, picked) : null;
    if (to == null) {
      return Integer.MIN_VALUE;
    }
    sums = to;
    picks.add(picked);
    int given = picked[0];
    if (kind == 3) {
      given += pick(0, 1) - pick(1, 1);
      given += n == 3 ? pick(0, 2) - 2 * pick(1, 2) + pick(2, 2) : 0;
    }
    ticks.add(new Tick(w, given, sums[0]));
    if (kind == 4) {
      turn(given);
    }
    return given;
  }

  private void turn(int given) {
    int many = given < 0 ? 0 : given > n ? n : given;
    List<Integer> order = new ArrayList<>();
    for (int k = 0; k < n; k++) {
      order.add(rule == 0 ? (hand + k) % n : k);
    }
    if (rule == 1) {
      order.sort((p, q) -> times[p] != times[q] ? times[p] - times[q] : p - q);
    }
    on = new HashSet<>(order.subList(0, many));
    for (int k : on) {
      times[k]++;
    }
    if (rule == 0) {
      hand = (hand + many) % n;
    }
  }

  int run(int many, int w) {
    if (many < 0 || many > 10000 || !wish(w)) {
      return -1;
    }
    int did = 0;
    while (did < many && tick(w) != Integer.MIN_VALUE) {
      did++;
    }
    return did;
  }

  long sum(int k) {
    return k < 0 || k >= sums.length ? 0 : sums[k];
  }

  private int kept() {
    return Math.min(256, ticks.size());
  }

  private Tick latest(int k) {
    return k < 0 || k >= kept() ? null : ticks.get(ticks.size() - 1 - k);
  }

  int was(int k, int what) {
    Tick t = latest(k);
    if (t == null || what < 0 || what > 1) {
      return Integer.MIN_VALUE;
    }
    return what == 0 ? t.given : t.wish;
  }

  long behind(int k) {
    Tick t = latest(k);
    return t == null ? 0 : t.behind;
  }

  long missed(int many) {
    if (many < 1 || many > kept()) {
      return 0;
    }
    long given = 0;
    long wished = 0;
    for (int k = 0; k < many; k++) {
      given += latest(k).given;
      wished += latest(k).wish;
    }
    return given * d - wished;
  }

  int ring(int w) {
    if (!wish(w)) {
      return -1;
    }
    Map<String, Integer> seen = new HashMap<>();
    long[] s = sums;
    for (int t = 0; t <= 4096; t++) {
      Integer before = seen.put(Arrays.toString(s), t);
      if (before != null) {
        tail = before;
        return t - before;
      }
      if (t < 4096) {
        s = next(s, w, new int[3]);
        if (s == null) {
          return -3;
        }
      }
    }
    return -2;
  }

  int tail() {
    return tail;
  }

  int leaves(int w, long bound) {
    if (!wish(w) || bound < 0) {
      return -1;
    }
    long[] s = sums;
    for (int t = 1; t <= 4096; t++) {
      s = next(s, w, new int[3]);
      if (s == null) {
        return t;
      }
      for (long v : s) {
        if (Math.abs(v) > bound) {
          return t;
        }
      }
    }
    return -2;
  }

  boolean box(int sum, long least, long most) {
    if (sum < 0 || sum >= sums.length || least > most || !inBounds(least) || !inBounds(most)) {
      return false;
    }
    box[sum] = new long[] {least, most};
    return true;
  }

  int kept(int w0, int w1) {
    if (!wish(w0) || !wish(w1) || w0 > w1) {
      return -1;
    }
    double many = w1 - w0 + 1.0;
    for (long[] span : box) {
      many *= span[1] - span[0] + 1.0;
    }
    return many > 100000 ? -2 : staysFrom(new long[sums.length], 0, w0, w1) ? 1 : 0;
  }

  private boolean staysFrom(long[] place, int k, int w0, int w1) {
    if (k < place.length) {
      for (long v = box[k][0]; v <= box[k][1]; v++) {
        place[k] = v;
        if (!staysFrom(place, k + 1, w0, w1)) {
          return false;
        }
      }
      return true;
    }
    for (int w = w0; w <= w1; w++) {
      long[] to = next(place, w, new int[3]);
      for (int i = 0; to != null && i < to.length; i++) {
        if (to[i] < box[i][0] || to[i] > box[i][1]) {
          to = null;
        }
      }
      if (to == null) {
        return false;
      }
    }
    return true;
  }

  int word(int w, int k) {
    if (w < 0 || w > d - 1 || k < 0 || k > 1000000) {
      return -1;
    }
    return (int) ((k + 1L) * w / d - (long) k * w / d);
  }

  int even(int many) {
    if (many < 1 || many > kept()) {
      return -1;
    }
    for (int length = 1; length <= many; length++) {
      int sum = 0;
      int least = Integer.MAX_VALUE;
      int most = Integer.MIN_VALUE;
      for (int k = 0; k < many; k++) {
        sum += latest(k).given - (k >= length ? latest(k - length).given : 0);
        if (k >= length - 1) {
          least = Math.min(least, sum);
          most = Math.max(most, sum);
        }
      }
      if (most - least > 1) {
        return 0;
      }
    }
    return 1;
  }

  int weight(int v) {
    if (weights.size() == 64 || v < -1000 || v > 1000) {
      return -1;
    }
    weights.add(v);
    return weights.size();
  }

  int clear() {
    int had = weights.size();
    weights.clear();
    return had;
  }

  long read() {
    long sum = 0;
    for (int k = 0; k < weights.size(); k++) {
      sum += latest(k) == null ? 0 : (long) weights.get(k) * latest(k).given;
    }
    return sum;
  }

  private boolean givesFirst(int many, int w) {
    long s = 0;
    for (int k = 0; k < many; k++) {
      int c = stepFor(s + w);
      if (c != ticks.get(k).given) {
        return false;
      }
      s += w - (long) c * d;
    }
    return true;
  }

  int back(int many, int what) {
    boolean can = many >= 1 && many <= 256 && ticks.size() <= 256 && ticks.size() >= many;
    if (!can || kind != 0 || begunWith[0] != 0 || what < 0 || what > 1) {
      return Integer.MIN_VALUE;
    }
    int by = what == 0 ? 1 : -1;
    for (int w = -1000000 * by; w >= -1000000 && w <= 1000000; w += by) {
      if (givesFirst(many, w)) {
        return w;
      }
    }
    return Integer.MIN_VALUE;
  }

  int range(int many, int w0, int w1) {
    if (many < 1 || many > 64 || !wish(w0) || !wish(w1) || w0 > w1 || w1 - w0 > 2000) {
      return -1;
    }
    Set<String> rows = new HashSet<>();
    for (int w = w0; w <= w1; w++) {
      StringBuilder row = new StringBuilder();
      long s = 0;
      for (int k = 0; k < many; k++) {
        int c = stepFor(s + w);
        row.append(c).append(' ');
        s += w - (long) c * d;
      }
      rows.add(row.toString());
    }
    return rows.size();
  }

  int part(int k, int what) {
    if (kind != 4 || k < 0 || k >= n || what < 0 || what > 1) {
      return -1;
    }
    return what == 1 ? times[k] : on.contains(k) ? 1 : 0;
  }

  int spread() {
    if (kind != 4) {
      return -1;
    }
    return Arrays.stream(times).max().getAsInt() - Arrays.stream(times).min().getAsInt();
  }

  int about(int what) {
    int[] all = {d, steps.length, kind, sums.length, kind == 4 ? n : 0, ticks.size(), kept(),
      weights.size(), hand};
    return what < 0 || what >= all.length ? -1 : all[what];
  }

  int step(int k) {
    return k < 0 || k >= steps.length ? Integer.MIN_VALUE : steps[k];
  }
}

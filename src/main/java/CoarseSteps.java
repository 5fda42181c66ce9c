/**
 * A bench for loops that turn a fine row of wishes into a coarse row of steps by keeping what was
 * missed. The words SUM, STEP, TICK, GIVEN and the like are those of the document.
 */
public final class CoarseSteps {
  public static final int NONE = -1;
  public static final int REFUSED = -2147483648;

  private static final int NOT_TOLD = -2;
  private static final int NOT_DONE = -3;

  private static final int FIRST = 0;
  private static final int TWO = 1;
  private static final int TABLES = 2;
  private static final int ROW = 3;
  private static final int WHEEL = 4;

  private static final int MOST_OVER = 10000;
  private static final int MOST_STEP = 100;
  private static final int MOST_STEPS = 8;
  private static final int MOST_WISH = 1000000;
  private static final long MOST_SUM = 1000000000000L;
  private static final int MOST_SUMS = 4;
  private static final int MOST_IN_ROW = 3;
  private static final int MOST_PARTS = 16;
  private static final int MOST_ENTRY = 10;
  private static final int MOST_RUN = 10000;
  private static final int MOST_KEPT = 256;
  private static final int MOST_AHEAD = 4096;
  private static final int MOST_TRIES = 100000;
  private static final int MOST_WEIGHTS = 64;
  private static final int MOST_WEIGHT = 1000;
  private static final int MOST_PLACE_IN_WORD = 1000000;
  private static final int LONGEST_ROW = 64;
  private static final int WIDEST_RANGE = 2000;

  private final Scale scale;
  private final Loop loop;
  private final Outlook outlook;
  private final Box inside;
  private final Filter filter;
  private final Claim claim;

  public CoarseSteps() {
    scale = new Scale();
    loop = new Loop(scale);
    outlook = new Outlook(loop);
    inside = new Box();
    filter = new Filter();
    claim = new Claim(scale);
  }

  public boolean over(int d) {
    if (d < 1 || d > MOST_OVER) {
      return false;
    }
    scale.over = d;
    loop.beginAnew();
    return true;
  }

  public boolean steps(int n, int a, int b, int c, int d, int e, int f, int g, int h) {
    int[] told = {a, b, c, d, e, f, g, h};
    if (!scale.canTake(n, told)) {
      return false;
    }
    scale.take(n, told);
    loop.beginAnew();
    return true;
  }

  public boolean loop(int kind, int n, int rule) {
    if (!canLoop(kind, n, rule)) {
      return false;
    }
    int before = loop.mover.sums;
    loop.begin(kind, n, rule);
    if (loop.mover.sums != before) {
      inside.empty();
    }
    return true;
  }

  public boolean table(int i, int j, int v) {
    if (loop.mover.kind != TABLES || !isWithin(v, MOST_ENTRY)) {
      return false;
    }
    if (!loop.mover.tables.put(i, j, v)) {
      return false;
    }
    loop.beginAnew();
    return true;
  }

  public boolean start(int sum, long v) {
    if (!loop.mover.hasSum(sum) || !isSum(v) || loop.ticks != 0) {
      return false;
    }
    loop.startAt(sum, v);
    return true;
  }

  public int tick(int w) {
    return isWish(w) ? loop.turn(w) : REFUSED;
  }

  public int run(int n, int w) {
    if (n < 0 || n > MOST_RUN || !isWish(w)) {
      return NONE;
    }
    for (int did = 0; did < n; did++) {
      if (loop.turn(w) == REFUSED) {
        return did;
      }
    }
    return n;
  }

  public long sum(int k) {
    return loop.mover.hasSum(k) ? loop.sums[k] : 0L;
  }

  public int was(int k, int what) {
    if (!loop.history.holds(k)) {
      return REFUSED;
    }
    switch (what) {
      case 0:
        return loop.history.givenAt(k);
      case 1:
        return loop.history.wishAt(k);
      default:
        return REFUSED;
    }
  }

  public long behind(int k) {
    return loop.history.holds(k) ? loop.history.sumAt(k) : 0L;
  }

  public long missed(int n) {
    return loop.history.holdsLast(n) ? loop.history.missedIn(n, scale.over) : 0L;
  }

  public int ring(int w) {
    return isWish(w) ? outlook.findRing(w) : NONE;
  }

  public int tail() {
    return outlook.toldTail;
  }

  public int leaves(int w, long bound) {
    return isWish(w) && bound >= 0 ? outlook.ticksUntilBeyond(w, bound) : NONE;
  }

  public boolean box(int sum, long least, long most) {
    if (!loop.mover.hasSum(sum) || least > most || !isSum(least) || !isSum(most)) {
      return false;
    }
    inside.setEnds(sum, least, most);
    return true;
  }

  public int kept(int w0, int w1) {
    if (!isWish(w0) || !isWish(w1) || w0 > w1) {
      return NONE;
    }
    return inside.tellKept(loop.mover, w0, w1);
  }

  public int word(int w, int k) {
    if (w < 0 || w >= scale.over || k < 0 || k > MOST_PLACE_IN_WORD) {
      return NONE;
    }
    long until = Math.floorDiv((k + 1L) * w, (long) scale.over);
    long before = Math.floorDiv((long) k * w, (long) scale.over);
    return (int) (until - before);
  }

  public int even(int n) {
    if (!loop.history.holdsLast(n)) {
      return NONE;
    }
    return loop.history.isEven(n) ? 1 : 0;
  }

  public int weight(int v) {
    return isWithin(v, MOST_WEIGHT) ? filter.append(v) : NONE;
  }

  public int clear() {
    return filter.empty();
  }

  public long read() {
    return filter.readFrom(loop.history);
  }

  public int back(int n, int what) {
    if (what < 0 || what > 1 || !loop.canClaim(n)) {
      return REFUSED;
    }
    claim.narrow(loop.history, n);
    if (claim.low > claim.high) {
      return REFUSED;
    }
    return (int) (what == 0 ? claim.low : claim.high);
  }

  public int range(int n, int w0, int w1) {
    if (n < 1 || n > LONGEST_ROW || !isWish(w0) || !isWish(w1)) {
      return NONE;
    }
    if (w0 > w1 || w1 - w0 > WIDEST_RANGE) {
      return NONE;
    }
    return claim.countRows(n, w0, w1);
  }

  public int part(int k, int what) {
    if (k < 0 || k >= loop.wheel.parts) {
      return NONE;
    }
    switch (what) {
      case 0:
        return loop.wheel.isOn[k] ? 1 : 0;
      case 1:
        return loop.wheel.timesOn[k];
      default:
        return NONE;
    }
  }

  public int spread() {
    return loop.mover.kind == WHEEL ? loop.wheel.mostLessLeast() : NONE;
  }

  public int about(int what) {
    switch (what) {
      case 0:
        return scale.over;
      case 1:
        return scale.count;
      case 2:
        return loop.mover.kind;
      case 3:
        return loop.mover.sums;
      case 4:
        return loop.wheel.parts;
      case 5:
        return loop.ticks;
      case 6:
        return loop.history.kept;
      case 7:
        return filter.count;
      case 8:
        return loop.wheel.hand;
      default:
        return NONE;
    }
  }

  public int step(int k) {
    return k >= 0 && k < scale.count ? scale.values[k] : REFUSED;
  }

  private static boolean isWithin(int v, int most) {
    return v >= -most && v <= most;
  }

  private static boolean isWish(int w) {
    return isWithin(w, MOST_WISH);
  }

  private static boolean isSum(long v) {
    return v >= -MOST_SUM && v <= MOST_SUM;
  }

  private static boolean canLoop(int kind, int n, int rule) {
    switch (kind) {
      case FIRST:
      case TWO:
        return n == 0 && rule == 0;
      case TABLES:
        return n >= 1 && n <= MOST_SUMS && rule == 0;
      case ROW:
        return n >= 2 && n <= MOST_IN_ROW && rule == 0;
      case WHEEL:
        return n >= 2 && n <= MOST_PARTS && (rule == 0 || rule == 1);
      default:
        return false;
    }
  }

  /** D and the STEPS: what a fine number is measured by. */
  private static final class Scale {
    private int over = 1;
    private int count = 2;
    private final int[] values = new int[MOST_STEPS];

    Scale() {
      values[0] = 0;
      values[1] = 1;
    }

    boolean canTake(int n, int[] told) {
      if (n < 2 || n > MOST_STEPS || n > told.length) {
        return false;
      }
      for (int k = 0; k < n; k++) {
        if (!isWithin(told[k], MOST_STEP) || (k > 0 && told[k] <= told[k - 1])) {
          return false;
        }
      }
      return true;
    }

    void take(int n, int[] told) {
      count = n;
      for (int k = 0; k < n; k++) {
        values[k] = told[k];
      }
    }

    /** Which STEP is the one for a number; the least one (0) needs no test: it is for all below. */
    int placeFor(long v) {
      for (int k = count - 1; k > 0; k--) {
        if ((long) values[k] * over <= v) {
          return k;
        }
      }
      return 0;
    }

    /** A STEP in the measure of the SUMS. */
    long fineAt(int place) {
      return (long) values[place] * over;
    }
  }

  /** The numbers by which TABLES go on. */
  private static final class Tables {
    private static final int B = 4;
    private static final int E = 5;
    private static final int H = 4;
    private static final int G = 4;

    private int sums = 1;
    private int g;
    private final int[] a = new int[MOST_SUMS * MOST_SUMS];
    private final int[] b = new int[MOST_SUMS];
    private final int[] e = new int[MOST_SUMS];
    private final int[] h = new int[MOST_SUMS];

    void begin(int n) {
      sums = n;
      g = 0;
      for (int k = 0; k < a.length; k++) {
        a[k] = 0;
      }
      for (int k = 0; k < MOST_SUMS; k++) {
        b[k] = 0;
        e[k] = 0;
        h[k] = 0;
      }
    }

    boolean put(int i, int j, int v) {
      boolean isRow = i >= 0 && i < sums;
      boolean isColumn = j >= 0 && j < sums;
      if (isRow && isColumn) {
        a[i * MOST_SUMS + j] = v;
      } else if (isRow && j == B) {
        b[i] = v;
      } else if (isRow && j == E) {
        e[i] = v;
      } else if (i == H && isColumn) {
        h[j] = v;
      } else if (i == H && j == G) {
        g = v;
      } else {
        return false;
      }
      return true;
    }

    long measure(long[] from, int wish) {
      long v = (long) g * wish;
      for (int j = 0; j < sums; j++) {
        v += h[j] * from[j];
      }
      return v;
    }

    long next(int i, long[] from, int wish, long taken) {
      long s = (long) b[i] * wish + e[i] * taken;
      for (int j = 0; j < sums; j++) {
        s += a[i * MOST_SUMS + j] * from[j];
      }
      return s;
    }
  }

  /** Moves SUMS on by one TICK, the LOOP's own or those of a trial. */
  private static final class Mover {
    private final Scale scale;
    private final Tables tables = new Tables();
    private final long[] coming = new long[MOST_SUMS];
    /** The STEPS of the latest move: of a ROW one for each of its FIRSTs, else one. */
    private final int[] picked = new int[MOST_IN_ROW];
    private int kind = FIRST;
    private int sums = 1;

    Mover(Scale scale) {
      this.scale = scale;
    }

    void begin(int newKind, int n) {
      kind = newKind;
      switch (newKind) {
        case TWO:
          sums = 2;
          break;
        case TABLES:
          sums = n;
          tables.begin(n);
          break;
        case ROW:
          sums = n;
          break;
        default:
          sums = 1;
          break;
      }
    }

    boolean hasSum(int k) {
      return k >= 0 && k < sums;
    }

    /** False, leaving the SUMS as they are, if one would be beyond the bounds. */
    boolean advance(long[] at, int wish) {
      switch (kind) {
        case TWO:
          reckonTwo(at, wish);
          break;
        case TABLES:
          reckonTables(at, wish);
          break;
        default:
          // A FIRST, a WHEEL's too, is a ROW of one.
          reckonRow(at, wish);
          break;
      }
      return settle(at);
    }

    private boolean settle(long[] at) {
      for (int k = 0; k < sums; k++) {
        if (!isSum(coming[k])) {
          return false;
        }
      }
      for (int k = 0; k < sums; k++) {
        at[k] = coming[k];
      }
      return true;
    }

    private void reckonTwo(long[] from, int wish) {
      coming[0] = takeStep(0, wish + 2 * from[0] - from[1]);
      coming[1] = from[0];
    }

    private void reckonTables(long[] from, int wish) {
      long v = tables.measure(from, wish);
      long taken = v - takeStep(0, v);
      for (int i = 0; i < sums; i++) {
        coming[i] = tables.next(i, from, wish, taken);
      }
    }

    private void reckonRow(long[] from, int wish) {
      long passedOn = wish;
      for (int k = 0; k < sums && k < MOST_IN_ROW; k++) {
        passedOn = takeStep(k, from[k] + passedOn);
        coming[k] = passedOn;
      }
    }

    /** Picks the STEP for a number and answers what it misses of it. */
    private long takeStep(int k, long v) {
      int place = scale.placeFor(v);
      picked[k] = scale.values[place];
      return v - scale.fineAt(place);
    }
  }

  /** The PARTS of a WHEEL; none of them for any other KIND. */
  private static final class Wheel {
    private final boolean[] isOn = new boolean[MOST_PARTS];
    private final int[] timesOn = new int[MOST_PARTS];
    private int parts;
    private int rule;
    private int hand;

    void begin(int newParts, int newRule) {
      parts = newParts;
      rule = newRule;
      beginAnew();
    }

    void beginAnew() {
      hand = 0;
      for (int k = 0; k < MOST_PARTS; k++) {
        isOn[k] = false;
        timesOn[k] = 0;
      }
    }

    void turn(int given) {
      int many = Math.max(0, Math.min(given, parts));
      for (int k = 0; k < parts; k++) {
        isOn[k] = false;
      }
      for (int did = 0; did < many; did++) {
        switchOn(rule == 0 ? nextByHand() : leastOftenOn());
      }
    }

    private void switchOn(int k) {
      isOn[k] = true;
      timesOn[k]++;
    }

    private int nextByHand() {
      int k = hand;
      hand = k + 1 < parts ? k + 1 : 0;
      return k;
    }

    /** Of those that are OFF yet: what is ON was counted in this TICK already. */
    private int leastOftenOn() {
      int least = 0;
      for (int k = 1; k < parts; k++) {
        if (!isOn[k] && (isOn[least] || timesOn[k] < timesOn[least])) {
          least = k;
        }
      }
      return least;
    }

    int mostLessLeast() {
      int least = timesOn[0];
      int most = timesOn[0];
      for (int k = 1; k < parts; k++) {
        least = Math.min(least, timesOn[k]);
        most = Math.max(most, timesOn[k]);
      }
      return most - least;
    }
  }

  /** The TICKS that are kept, told by how many came after them. */
  private static final class History {
    /** MOST_KEPT is a power of two, so that a mask leads around. */
    private static final int AROUND = MOST_KEPT - 1;

    private final int[] wishes = new int[MOST_KEPT];
    private final int[] givens = new int[MOST_KEPT];
    private final long[] sums = new long[MOST_KEPT];
    private final int[] totals = new int[MOST_KEPT + 1];
    private int next;
    private int kept;

    void forget() {
      next = 0;
      kept = 0;
    }

    void note(int wish, int given, long sum) {
      wishes[next] = wish;
      givens[next] = given;
      sums[next] = sum;
      next = (next + 1) & AROUND;
      kept = Math.min(kept + 1, MOST_KEPT);
    }

    boolean holds(int k) {
      return k >= 0 && k < kept;
    }

    boolean holdsLast(int n) {
      return n >= 1 && n <= kept;
    }

    int wishAt(int k) {
      return wishes[(next - 1 - k) & AROUND];
    }

    int givenAt(int k) {
      return givens[(next - 1 - k) & AROUND];
    }

    long sumAt(int k) {
      return sums[(next - 1 - k) & AROUND];
    }

    long missedIn(int n, int over) {
      long missed = 0;
      for (int k = 0; k < n; k++) {
        missed += (long) givenAt(k) * over - wishAt(k);
      }
      return missed;
    }

    boolean isEven(int n) {
      for (int k = 0; k < n && k < MOST_KEPT; k++) {
        totals[k + 1] = totals[k] + givenAt(k);
      }
      for (int length = 1; length < n; length++) {
        if (!isEvenBy(length, n)) {
          return false;
        }
      }
      return true;
    }

    private boolean isEvenBy(int length, int n) {
      int least = totals[length];
      int most = least;
      for (int end = length + 1; end <= n; end++) {
        int stretch = totals[end] - totals[end - length];
        least = Math.min(least, stretch);
        most = Math.max(most, stretch);
      }
      return most - least <= 1;
    }
  }

  /** The LOOP with all that its TICKS leave behind. */
  private static final class Loop {
    private final Mover mover;
    private final Wheel wheel = new Wheel();
    private final History history = new History();
    private final long[] sums = new long[MOST_SUMS];
    private int ticks;
    private long firstBeganWith;
    private int secondBefore;
    private int thirdBefore;
    private int thirdTwoBefore;

    Loop(Scale scale) {
      mover = new Mover(scale);
    }

    void begin(int kind, int n, int rule) {
      mover.begin(kind, n);
      wheel.begin(kind == WHEEL ? n : 0, rule);
      beginAnew();
    }

    void beginAnew() {
      for (int k = 0; k < MOST_SUMS; k++) {
        sums[k] = 0;
      }
      ticks = 0;
      firstBeganWith = 0;
      secondBefore = 0;
      thirdBefore = 0;
      thirdTwoBefore = 0;
      wheel.beginAnew();
      history.forget();
    }

    void startAt(int sum, long v) {
      sums[sum] = v;
      if (sum == 0) {
        firstBeganWith = v;
      }
    }

    /** One TICK: what is GIVEN, or REFUSED. */
    int turn(int wish) {
      if (!mover.advance(sums, wish)) {
        return REFUSED;
      }
      int given = mover.kind == ROW ? giveOfRow() : mover.picked[0];
      ticks++;
      history.note(wish, given, sums[0]);
      wheel.turn(given);
      return given;
    }

    private int giveOfRow() {
      int second = mover.picked[1];
      int given = mover.picked[0] + second - secondBefore;
      secondBefore = second;
      if (mover.sums == MOST_IN_ROW) {
        int third = mover.picked[2];
        given += third - 2 * thirdBefore + thirdTwoBefore;
        thirdTwoBefore = thirdBefore;
        thirdBefore = third;
      }
      return given;
    }

    boolean canClaim(int n) {
      return mover.kind == FIRST
          && firstBeganWith == 0
          && ticks == history.kept
          && history.holdsLast(n);
    }
  }

  /** Looks ahead by a wish that stays; the LOOP itself does not move. */
  private static final class Outlook {
    private final Loop loop;
    private final long[] at = new long[MOST_SUMS];
    private final long[] mark = new long[MOST_SUMS];
    private int toldTail;

    Outlook(Loop loop) {
      this.loop = loop;
    }

    int findRing(int wish) {
      int beat = findBeat(wish);
      if (beat < 0) {
        return beat;
      }
      int tail = findTail(wish, beat);
      if (tail < 0) {
        return NOT_TOLD;
      }
      toldTail = tail;
      return beat;
    }

    /**
     * Marks the SUMS behind TICK 1, 3, 7 and so on and waits for them to come again. The last mark
     * stands at MOST_AHEAD - 1, where any TAIL that may be told has ended, and is waited for as
     * long as any BEAT that may be told.
     */
    private int findBeat(int wish) {
      copy(loop.sums, at);
      copy(at, mark);
      int span = 1;
      int since = 0;
      for (int tick = 1; tick < 2 * MOST_AHEAD; tick++) {
        if (!loop.mover.advance(at, wish)) {
          return tick <= MOST_AHEAD ? NOT_DONE : NOT_TOLD;
        }
        since++;
        if (isSame(at, mark)) {
          return since;
        }
        if (since == span) {
          copy(at, mark);
          span *= 2;
          since = 0;
        }
      }
      return NOT_TOLD;
    }

    /** Two walk a BEAT apart until they stand alike: the TAIL, or NONE if it is too long. */
    private int findTail(int wish, int beat) {
      copy(loop.sums, at);
      copy(loop.sums, mark);
      for (int k = 0; k < beat; k++) {
        if (!loop.mover.advance(at, wish)) {
          return NONE;
        }
      }
      for (int tail = 0; tail + beat <= MOST_AHEAD; tail++) {
        if (isSame(at, mark)) {
          return tail;
        }
        if (!loop.mover.advance(at, wish) || !loop.mover.advance(mark, wish)) {
          return NONE;
        }
      }
      return NONE;
    }

    int ticksUntilBeyond(int wish, long bound) {
      copy(loop.sums, at);
      for (int tick = 1; tick <= MOST_AHEAD; tick++) {
        if (!loop.mover.advance(at, wish) || isBeyond(bound)) {
          return tick;
        }
      }
      return NOT_TOLD;
    }

    private boolean isBeyond(long bound) {
      for (int k = 0; k < loop.mover.sums; k++) {
        if (at[k] > bound || at[k] < -bound) {
          return true;
        }
      }
      return false;
    }

    private boolean isSame(long[] some, long[] others) {
      for (int k = 0; k < loop.mover.sums; k++) {
        if (some[k] != others[k]) {
          return false;
        }
      }
      return true;
    }

    private static void copy(long[] from, long[] to) {
      for (int k = 0; k < MOST_SUMS; k++) {
        to[k] = from[k];
      }
    }
  }

  /** The BOX, and whether it is ever left. */
  private static final class Box {
    private final long[] least = new long[MOST_SUMS];
    private final long[] most = new long[MOST_SUMS];
    private final long[] place = new long[MOST_SUMS];
    private final long[] at = new long[MOST_SUMS];

    void empty() {
      for (int k = 0; k < MOST_SUMS; k++) {
        least[k] = 0;
        most[k] = 0;
      }
    }

    void setEnds(int sum, long newLeast, long newMost) {
      least[sum] = newLeast;
      most[sum] = newMost;
    }

    int tellKept(Mover mover, int w0, int w1) {
      long places = countPlaces(mover.sums, w1 - w0 + 1L);
      if (places > MOST_TRIES) {
        return NOT_TOLD;
      }
      for (int k = 0; k < mover.sums; k++) {
        place[k] = least[k];
      }
      for (int did = 0; did < places; did++) {
        if (!staysFromPlace(mover, w0, w1)) {
          return 0;
        }
        toNextPlace(mover.sums);
      }
      return 1;
    }

    /** More than MOST_TRIES if the places times the wishes are; it never grows beyond a long. */
    private long countPlaces(int sums, long wishes) {
      long places = 1;
      for (int k = 0; k < sums; k++) {
        long wide = most[k] - least[k] + 1;
        if (wide > MOST_TRIES) {
          return wide;
        }
        places *= wide;
        if (places > MOST_TRIES) {
          return places;
        }
      }
      return places * wishes > MOST_TRIES ? MOST_TRIES + 1L : places;
    }

    private boolean staysFromPlace(Mover mover, int w0, int w1) {
      for (int w = w0; w <= w1; w++) {
        for (int k = 0; k < mover.sums; k++) {
          at[k] = place[k];
        }
        if (!mover.advance(at, w) || !isInside(mover.sums)) {
          return false;
        }
      }
      return true;
    }

    private boolean isInside(int sums) {
      for (int k = 0; k < sums; k++) {
        if (at[k] < least[k] || at[k] > most[k]) {
          return false;
        }
      }
      return true;
    }

    private void toNextPlace(int sums) {
      for (int k = 0; k < sums; k++) {
        if (place[k] < most[k]) {
          place[k]++;
          return;
        }
        place[k] = least[k];
      }
    }
  }

  /** Weights for the latest GIVEN; it outlives every LOOP. */
  private static final class Filter {
    private final int[] weights = new int[MOST_WEIGHTS];
    private int count;

    int append(int v) {
      if (count >= MOST_WEIGHTS) {
        return NONE;
      }
      weights[count] = v;
      count++;
      return count;
    }

    int empty() {
      int had = count;
      count = 0;
      return had;
    }

    long readFrom(History history) {
      long sum = 0;
      for (int k = 0; k < count && history.holds(k); k++) {
        sum += (long) weights[k] * history.givenAt(k);
      }
      return sum;
    }
  }

  /** What rows of STEPS a staying wish gives to a FIRST from SUM 0, and what a row tells of it. */
  private static final class Claim {
    private final Scale scale;
    private long low;
    private long high;

    Claim(Scale scale) {
      this.scale = scale;
    }

    /**
     * In its k-th TICK a FIRST looks at k wishes less the STEPS before: each STEP that was GIVEN
     * bounds k wishes from below, the next greater STEP from above.
     */
    void narrow(History history, int n) {
      low = -MOST_WISH;
      high = MOST_WISH;
      long before = 0;
      for (int k = 1; k <= n; k++) {
        long taken = (long) history.givenAt(history.kept - k) * scale.over;
        int place = scale.placeFor(taken);
        if (place > 0) {
          low = Math.max(low, -Math.floorDiv(-(before + taken), (long) k));
        }
        if (place + 1 < scale.count) {
          high = Math.min(high, Math.floorDiv(before + scale.fineAt(place + 1) - 1, (long) k));
        }
        before += taken;
      }
    }

    /** Wishes that give one row stand side by side, so each row is met once, at its least wish. */
    int countRows(int n, int w0, int w1) {
      int rows = 0;
      long wish = w0;
      for (int did = 0; did <= WIDEST_RANGE && wish <= w1; did++) {
        rows++;
        wish += 1 + roomAbove(wish, n);
      }
      return rows;
    }

    /** How much more a wish may be before one of its first n STEPS becomes another. */
    private long roomAbove(long wish, int n) {
      long room = WIDEST_RANGE;
      long sum = 0;
      for (int k = 1; k <= n; k++) {
        long v = sum + wish;
        int place = scale.placeFor(v);
        if (place + 1 < scale.count) {
          room = Math.min(room, Math.floorDiv(scale.fineAt(place + 1) - 1 - v, (long) k));
        }
        sum = v - scale.fineAt(place);
      }
      return room;
    }
  }
}

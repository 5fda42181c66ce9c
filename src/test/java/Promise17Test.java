/** Promise 17: kept. */
public final class Promise17Test {
  private static final long MOST = Bench.MOST_SUM;

  public static void main(String[] args) {
    keptOrNot();
    fromEachPlace();
    byEachWish();
    intoItForEachSum();
    noTickIsRefused();
    asManyAsMayBe();
    tooMany();
    tooManyBeyondALong();
    noSuchWishes();
    leastAndGreatestWish();
    theWrongWay();
    wishesCountBeforePlaces();
    placesOfARowAndATwo();
    nothingChanges();
    Check.end();
  }

  private static void keptOrNot() {
    Check.sentence(17, "1 if the BOX is KEPT, 0 if not");
    CoarseSteps x = Bench.over(4);
    x.box(0, 0, 3);
    Check.same("kept(0, 4)", 1, x.kept(0, 4));
    Check.same("kept(0, 5)", 0, x.kept(0, 5));
    Check.same("kept(-1, 4)", 0, x.kept(-1, 4));
    Check.same("kept(2, 2)", 1, x.kept(2, 2));
  }

  private static void fromEachPlace() {
    Check.sentence(17, "from each place in it");
    CoarseSteps x = Bench.over(4);
    x.box(0, 0, 3);
    Check.same("kept(5, 5): 3 alone leads out", 0, x.kept(5, 5));
    Check.same("kept(-1, -1): 0 alone leads out", 0, x.kept(-1, -1));
    x.loop(2, 2, 0);
    x.table(4, 0, -1);
    x.table(4, 1, 1);
    x.table(0, 5, 2);
    x.over(1);
    x.box(0, 0, 1);
    x.box(1, 0, 1);
    Check.same("(0,1) alone leads out", 0, x.kept(0, 0));
    x.box(1, 0, 0);
    Check.same("(0,0) and (1,0) do not", 1, x.kept(0, 0));
    x.box(0, 1, 1);
    x.box(1, 2, 2);
    Check.same("(1,2) does", 0, x.kept(0, 0));
  }

  private static void byEachWish() {
    Check.sentence(17, "each TICK by each whole W of these");
    CoarseSteps x = Bench.loop(2, 1, 0);
    x.table(4, 4, 1);
    x.table(0, 5, 10);
    Bench.tell(x, -1, 0, 1);
    Check.same("kept(0, 0)", 1, x.kept(0, 0));
    Check.same("kept(0, 1): by the last alone not", 0, x.kept(0, 1));
    Check.same("kept(-1, 0): by the first alone not", 0, x.kept(-1, 0));
    Check.same("kept(-1, -1)", 0, x.kept(-1, -1));
    x.over(100);
    Check.same("kept(0, 99)", 1, x.kept(0, 99));
    Check.same("kept(0, 100)", 0, x.kept(0, 100));
  }

  private static void intoItForEachSum() {
    Check.sentence(17, "leads into it: each SUM");
    CoarseSteps x = Bench.loop(2, 2, 0);
    x.table(0, 1, 1);
    x.table(1, 0, 1);
    x.box(0, 0, 2);
    x.box(1, 0, 2);
    Check.same("they change places", 1, x.kept(0, 0));
    x.box(1, 0, 3);
    Check.same("(0,3) leads to (3,0)", 0, x.kept(0, 0));
    x.box(1, 1, 2);
    Check.same("(0,1) leads to (1,0)", 0, x.kept(0, 0));
    for (int k = 0; k < 4; k++) {
      x.loop(2, 4, 0);
      x.table(k, 4, 1);
      x.box(k, -1, 1);
      Check.same("kept(-1, 1), SUM " + k, 1, x.kept(-1, 1));
      Check.same("kept(-2, 1), SUM " + k, 0, x.kept(-2, 1));
      Check.same("kept(-1, 2), SUM " + k, 0, x.kept(-1, 2));
    }
  }

  private static void noTickIsRefused() {
    Check.sentence(17, "no TICK is refused");
    CoarseSteps x = new CoarseSteps();
    x.box(0, MOST, MOST);
    Check.same("kept(1, 1) at MOST", 1, x.kept(1, 1));
    Check.same("kept(2, 2): a TICK is refused", 0, x.kept(2, 2));
    x.box(0, -MOST, -MOST);
    Check.same("kept(0, 0) at -MOST", 1, x.kept(0, 0));
    Check.same("kept(-1, -1): a TICK is refused", 0, x.kept(-1, -1));
    x.box(0, MOST - 9, MOST);
    Check.same("kept(2, 2): but for the last place", 0, x.kept(2, 2));
  }

  private static void asManyAsMayBe() {
    Check.sentence(17, "Places times wishes: 100000 at most");
    CoarseSteps x = new CoarseSteps();
    x.box(0, 0, 99999);
    Check.same("100000 places, 1 wish", 1, x.kept(1, 1));
    x.box(0, 0, 49999);
    Check.same("50000 places, 2 wishes", 1, x.kept(0, 1));
    x.box(0, 0, 0);
    Check.same("1 place, 100000 wishes", 0, x.kept(-99999, 0));
    x.over(10000);
    x.box(0, 0, 9999);
    Check.same("10000 places, 10 wishes", 1, x.kept(0, 9));
    x.loop(2, 4, 0);
    for (int k = 0; k < 4; k++) {
      x.box(k, -5, 4);
    }
    Check.same("10000 places of four SUMS, 10 wishes", 1, x.kept(1, 10));
    x.loop(2, 1, 0);
    Check.same("1 place, 100000 wishes that stay", 1, x.kept(-50000, 49999));
  }

  private static void tooMany() {
    Check.sentence(17, "-2 if there are too many places and wishes");
    CoarseSteps x = new CoarseSteps();
    x.box(0, 0, 100000);
    Check.same("100001 places, 1 wish", Bench.NOT_TOLD, x.kept(1, 1));
    x.box(0, 0, 99999);
    Check.same("100000 places, 2 wishes", Bench.NOT_TOLD, x.kept(0, 1));
    x.box(0, 0, 50000);
    Check.same("50001 places, 2 wishes", Bench.NOT_TOLD, x.kept(0, 1));
    x.box(0, 0, 49999);
    Check.same("50000 places, 3 wishes", Bench.NOT_TOLD, x.kept(-1, 1));
    x.box(0, 0, 0);
    Check.same("1 place, 100001 wishes", Bench.NOT_TOLD, x.kept(-100000, 0));
    Check.same("1 place, all wishes", Bench.NOT_TOLD, x.kept(-1000000, 1000000));
    x.loop(2, 4, 0);
    for (int k = 0; k < 4; k++) {
      x.box(k, -5, 4);
    }
    Check.same("10000 places of four SUMS, 11 wishes", Bench.NOT_TOLD, x.kept(0, 10));
    x.box(3, -5, 5);
    Check.same("11000 places of four SUMS, 10 wishes", Bench.NOT_TOLD, x.kept(1, 10));
  }

  private static void tooManyBeyondALong() {
    Check.sentence(17, "-2 if there are too many, however many");
    CoarseSteps x = Bench.loop(2, 4, 0);
    for (int k = 0; k < 4; k++) {
      x.box(k, -MOST, MOST);
    }
    Check.same("the most of all", Bench.NOT_TOLD, x.kept(0, 0));
    Check.same("the most of all, all wishes", Bench.NOT_TOLD, x.kept(-1000000, 1000000));
    for (int k = 0; k < 4; k++) {
      x.box(k, 0, 65535);
    }
    Check.same("2 to the 64th", Bench.NOT_TOLD, x.kept(0, 0));
    x.loop(1, 0, 0);
    x.box(0, 0, (1L << 32) - 1);
    x.box(1, 0, (1L << 32) - 1);
    Check.same("2 to the 64th of two SUMS", Bench.NOT_TOLD, x.kept(0, 0));
    x.box(0, 0, 0);
    Check.same("2 to the 32nd, all in the second", Bench.NOT_TOLD, x.kept(0, 0));
  }

  private static void noSuchWishes() {
    Check.sentence(17, "NONE if the wishes can't be");
    CoarseSteps x = new CoarseSteps();
    for (int w : Bench.beyondWishes()) {
      Check.same("kept(" + w + ", " + w + ")", Bench.NONE, x.kept(w, w));
      Check.same("kept(" + w + ", 0)", Bench.NONE, x.kept(w, 0));
      Check.same("kept(0, " + w + ")", Bench.NONE, x.kept(0, w));
    }
    Check.same("kept(999999, 1000001)", Bench.NONE, x.kept(999999, 1000001));
    Check.same("kept(-1000001, -999999)", Bench.NONE, x.kept(-1000001, -999999));
    int least = Integer.MIN_VALUE;
    Check.same("kept(least, most)", Bench.NONE, x.kept(least, Integer.MAX_VALUE));
  }

  private static void leastAndGreatestWish() {
    Check.sentence(17, "by wishes (-1000000 .. 1000000)");
    CoarseSteps x = Bench.loop(2, 1, 0);
    Check.same("kept(1000000, 1000000)", 1, x.kept(1000000, 1000000));
    Check.same("kept(-1000000, -1000000)", 1, x.kept(-1000000, -1000000));
    Check.same("kept(900001, 1000000)", 1, x.kept(900001, 1000000));
    Check.same("kept(-1000000, -900001)", 1, x.kept(-1000000, -900001));
  }

  private static void theWrongWay() {
    Check.sentence(17, "NONE if W0 is above W1");
    CoarseSteps x = new CoarseSteps();
    Check.same("kept(1, 0)", Bench.NONE, x.kept(1, 0));
    Check.same("kept(1000000, -1000000)", Bench.NONE, x.kept(1000000, -1000000));
    Check.same("kept(1, 1)", 1, x.kept(1, 1));
  }

  private static void wishesCountBeforePlaces() {
    Check.sentence(17, "NONE if the wishes can't be, however many places there are");
    CoarseSteps x = new CoarseSteps();
    x.box(0, -MOST, MOST);
    Check.same("kept(1, 0)", Bench.NONE, x.kept(1, 0));
    Check.same("kept(0, 1000001)", Bench.NONE, x.kept(0, 1000001));
  }

  private static void placesOfARowAndATwo() {
    Check.sentence(17, "a span of whole numbers for each SUM");
    CoarseSteps x = Bench.over(4);
    x.loop(3, 2, 0);
    x.box(0, 0, 3);
    x.box(1, 0, 3);
    Check.same("a ROW of two by 0 .. 4", 1, x.kept(0, 4));
    Check.same("a ROW of two by 0 .. 5", 0, x.kept(0, 5));
    x.loop(3, 3, 0);
    for (int k = 0; k < 3; k++) {
      x.box(k, 0, 3);
    }
    Check.same("a ROW of three by 0 .. 4", 1, x.kept(0, 4));
    Check.same("a ROW of three by -1", 0, x.kept(-1, -1));
    x.box(2, 0, 2);
    Check.same("a ROW of three, the last less wide", 0, x.kept(0, 4));
    x = Bench.over(4, -1, 0, 1, 2);
    x.loop(1, 0, 0);
    x.box(0, 0, 3);
    x.box(1, 0, 3);
    Check.same("TWO by 0 .. 4: -3 .. 10 is covered", 1, x.kept(0, 4));
    Check.same("TWO by 0 .. 5: -3 .. 11", 1, x.kept(0, 5));
    Check.same("TWO by 0 .. 6: 12 less 8 is 4", 0, x.kept(0, 6));
    Check.same("TWO by -1: -4", 1, x.kept(-1, -1));
    Check.same("TWO by -2: -5", 0, x.kept(-2, -2));
    x.box(1, 1, 3);
    Check.same("TWO: (0,1) leads to (..,0)", 0, x.kept(0, 0));
  }

  private static void nothingChanges() {
    Check.sentence(17, "nothing is changed by it");
    Bench.unchangedBy(x -> {
      x.kept(0, 4);
      x.kept(0, 5);
      x.kept(-7, -7);
      x.kept(5, 0);
      x.kept(0, 1000001);
    });
  }
}

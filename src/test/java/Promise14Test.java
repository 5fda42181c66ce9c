/** Promise 14: tail. */
public final class Promise14Test {
  public static void main(String[] args) {
    zeroAtFirst();
    leastNumberOfTicks();
    leastAndGreatest();
    ofTheLatest();
    notByARingThatToldNone();
    itOutlivesTheLoop();
    nothingChanges();
    Check.end();
  }

  private static void zeroAtFirst() {
    Check.sentence(14, "0 at first");
    CoarseSteps x = new CoarseSteps();
    Check.same("tail()", 0, x.tail());
    x.ring(2);
    Check.same("tail() behind a ring that was not told", 0, x.tail());
    x.ring(2000000);
    Check.same("tail() behind a ring by no wish", 0, x.tail());
  }

  private static void leastNumberOfTicks() {
    Check.sentence(14, "TAIL is the least number of TICKS after which they come again some time");
    for (int from = 0; from <= 40; from++) {
      CoarseSteps x = Bench.firstFrom(4, from);
      x.ring(0);
      Check.same("tail() by 0 from " + from, from < 4 ? 0 : from / 4, x.tail());
      x.ring(1);
      // Each TICK takes 3 as long as the SUM is 4 or more behind it.
      int due = 0;
      for (int s = from; s >= 4; s = s - 3) {
        due++;
      }
      Check.same("tail() by 1 from " + from, due, x.tail());
    }
  }

  private static void leastAndGreatest() {
    Check.sentence(14, "TAIL from 0 to 4095");
    CoarseSteps x = Bench.firstFrom(1, 4095);
    x.ring(1);
    Check.same("tail()", 0, x.tail());
    x.ring(0);
    Check.same("tail()", 4095, x.tail());
  }

  private static void ofTheLatest() {
    Check.sentence(14, "of the latest ring() that told a BEAT");
    CoarseSteps x = Bench.firstFrom(4, 10);
    x.ring(1);
    Check.same("tail()", 3, x.tail());
    x.ring(2);
    Check.same("tail()", 4, x.tail());
    x.ring(4);
    Check.same("tail(): 0 again", 0, x.tail());
  }

  private static void notByARingThatToldNone() {
    Check.sentence(14, "that told a BEAT");
    CoarseSteps x = Bench.firstFrom(4, 10);
    x.ring(1);
    Check.same("ring(5)", Bench.NOT_TOLD, x.ring(5));
    Check.same("tail(): that one was not told", 3, x.tail());
    Check.same("ring(2000000)", Bench.NONE, x.ring(2000000));
    Check.same("tail(): that was no wish", 3, x.tail());
    x.start(0, Bench.MOST_SUM);
    Check.same("ring(1000000)", Bench.NOT_DONE, x.ring(1000000));
    Check.same("tail(): one was not done", 3, x.tail());
    x.over(4096);
    x.start(0, 4096);
    Check.same("ring(1): TAIL 1, BEAT 4096", Bench.NOT_TOLD, x.ring(1));
    Check.same("tail(): too long together", 3, x.tail());
  }

  private static void itOutlivesTheLoop() {
    Check.sentence(14, "the latest ring(), whatever was since");
    CoarseSteps x = Bench.firstFrom(4, 10);
    x.ring(1);
    x.run(5, 2);
    Check.same("tail() behind TICKS", 3, x.tail());
    x.over(5);
    Check.same("tail() behind over()", 3, x.tail());
    Bench.tell(x, 2, 3);
    Check.same("tail() behind steps()", 3, x.tail());
    x.loop(2, 3, 0);
    Check.same("tail() behind loop()", 3, x.tail());
    x.table(0, 0, 1);
    Check.same("tail() behind table()", 3, x.tail());
  }

  private static void nothingChanges() {
    Check.sentence(14, "nothing is changed by it");
    Bench.unchangedBy(x -> x.tail());
  }
}

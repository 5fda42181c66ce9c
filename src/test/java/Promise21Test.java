/** Promise 21: clear. */
public final class Promise21Test {
  public static void main(String[] args) {
    noneThereWere();
    howManyItHad();
    theMost();
    noWeightsAfterwards();
    allElseStays();
    Check.end();
  }

  private static void noneThereWere() {
    Check.sentence(21, "how many it had: none");
    CoarseSteps x = new CoarseSteps();
    Check.same("clear()", 0, x.clear());
    Check.same("clear()", 0, x.clear());
  }

  private static void howManyItHad() {
    Check.sentence(21, "how many it had");
    CoarseSteps x = new CoarseSteps();
    x.weight(3);
    x.weight(2000);
    x.weight(4);
    Check.same("clear()", 2, x.clear());
    Check.same("clear() again", 0, x.clear());
  }

  private static void theMost() {
    Check.sentence(21, "how many it had: the most");
    CoarseSteps x = new CoarseSteps();
    for (int k = 0; k < 70; k++) {
      x.weight(k);
    }
    Check.same("clear()", 64, x.clear());
    Check.same("clear() again", 0, x.clear());
  }

  private static void noWeightsAfterwards() {
    Check.sentence(21, "The FILTER has no weights");
    CoarseSteps x = new CoarseSteps();
    x.weight(3);
    x.weight(4);
    x.run(5, 1);
    x.clear();
    Check.same("about(7)", 0, x.about(7));
    Check.same("read()", 0, x.read());
    Check.same("weight(5) is the first again", 1, x.weight(5));
    Check.same("read(): what was before does not count", 5, x.read());
  }

  private static void allElseStays() {
    Check.sentence(21, "The FILTER alone");
    Bench.unchangedBy(x -> {
      x.clear();
      x.weight(3);
      x.weight(-5);
    });
  }
}

import java.util.ArrayList;
import java.util.List;
import java.util.function.Consumer;
import java.util.function.Supplier;
import java.util.function.ToLongFunction;

/**
 * All that an object tells. Each look is taken at an object of its own, so that no look can hide, or
 * undo, what is looked for.
 */
final class Looks {
  private static final int[] LATEST = {0, 1, 2, 3, 4, 254, 255, 256};
  /** As many wishes as fit with the places of a BOX of busy(): one more are too many. */
  private static final int[] FITTING_WISHES = {25000, 5000, 833, 119};
  private static final int[] TICKS = {3, -2, 11, 0, 1};

  private final List<String> calls = new ArrayList<>();
  private final List<ToLongFunction<CoarseSteps>> asked = new ArrayList<>();

  Looks() {
    atNumbers();
    atTicks();
    atParts();
    atWhatComes();
    atTheBox();
  }

  /** Objects behind these calls tell the same, now and behind five TICKS more. */
  void same(String why, Supplier<CoarseSteps> due, Supplier<CoarseSteps> got) {
    for (int k = 0; k < calls.size(); k++) {
      ToLongFunction<CoarseSteps> look = asked.get(k);
      String call = why + ": " + calls.get(k);
      Check.same(call, look.applyAsLong(due.get()), look.applyAsLong(got.get()));
      Check.same(call + ", five TICKS later",
          look.applyAsLong(later(due)), look.applyAsLong(later(got)));
    }
  }

  private static CoarseSteps later(Supplier<CoarseSteps> some) {
    CoarseSteps x = some.get();
    Bench.ticks(x, TICKS);
    return x;
  }

  private void look(String call, ToLongFunction<CoarseSteps> ask) {
    calls.add(call);
    asked.add(ask);
  }

  private void atNumbers() {
    for (int k = 0; k <= 8; k++) {
      int what = k;
      look("about(" + what + ")", x -> x.about(what));
      look("step(" + what + ")", x -> x.step(what));
    }
    for (int k = 0; k <= 4; k++) {
      int sum = k;
      look("sum(" + sum + ")", x -> x.sum(sum));
    }
    look("tail()", x -> x.tail());
    look("read()", x -> x.read());
    look("clear()", x -> x.clear());
    look("weight(1)", x -> x.weight(1));
    look("word(1, 2)", x -> x.word(1, 2));
  }

  private void atTicks() {
    for (int k : LATEST) {
      look("was(" + k + ", 0)", x -> x.was(k, 0));
      look("was(" + k + ", 1)", x -> x.was(k, 1));
      look("behind(" + k + ")", x -> x.behind(k));
    }
    look("missed(4)", x -> x.missed(4));
    look("even(4)", x -> x.even(4));
    for (int n = 1; n <= 4; n++) {
      int many = n;
      look("back(" + many + ", 0)", x -> x.back(many, 0));
      look("back(" + many + ", 1)", x -> x.back(many, 1));
    }
  }

  private void atParts() {
    look("spread()", x -> x.spread());
    for (int k = 0; k < 16; k++) {
      int part = k;
      look("part(" + part + ", 0)", x -> x.part(part, 0));
      look("part(" + part + ", 1)", x -> x.part(part, 1));
    }
  }

  private void atWhatComes() {
    look("tick(6)", x -> x.tick(6));
    look("run(7, 1)", x -> x.run(7, 1));
    look("start(0, 8)", x -> x.start(0, 8) ? 1 : 0);
    look("tick(40), then read()", x -> {
      x.tick(40);
      return x.read();
    });
    look("ring(1)", x -> x.ring(1));
    look("leaves(1, 30)", x -> x.leaves(1, 30));
    look("range(4, 0, 8)", x -> x.range(4, 0, 8));
  }

  private void atTheBox() {
    look("kept(0, 0)", x -> x.kept(0, 0));
    look("kept(0, 4)", x -> x.kept(0, 4));
    for (int wishes : FITTING_WISHES) {
      look("kept(1, " + wishes + ")", x -> x.kept(1, wishes));
      look("kept(0, " + wishes + ")", x -> x.kept(0, wishes));
    }
  }
}

/** Counts the answers of one test and ends it with exit code 1 if one was not the one due. */
final class Check {
  private static int passed = 0;
  private static int failed = 0;
  private static String heading = "";

  private Check() {}

  static void heading(String text) {
    heading = text;
  }

  /** What follows would fail if these words of a promise, or of the terms it uses, were broken. */
  static void sentence(int promise, String words) {
    heading = "promise " + promise + ", \"" + words + "\"";
  }

  static void same(String call, long due, long got) {
    same(call, String.valueOf(due), String.valueOf(got));
  }

  static void same(String call, String due, String got) {
    if (due.equals(got)) {
      passed++;
      return;
    }
    failed++;
    if (failed <= 50) {
      System.out.println(heading + ": " + call + " answered " + got + ", due is " + due);
    }
  }

  static void yes(String call, boolean got) {
    same(call, 1, got ? 1 : 0);
  }

  static void no(String call, boolean got) {
    same(call, 0, got ? 1 : 0);
  }

  static boolean hasFailed() {
    return failed > 0;
  }

  static void end() {
    System.out.println(passed + " answers as due, " + failed + " not");
    if (failed > 0) {
      System.exit(1);
    }
  }
}

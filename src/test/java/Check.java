/** Counts the answers that are not as due; every test ends with {@link #finish}. */
final class Check {
  private static int wrong = 0;
  private static long seen = 0;

  private Check() {}

  static void due(String call, long got, long want) {
    seen++;
    if (got != want) {
      report(call + " answered " + got + ", due is " + want);
    }
  }

  static void due(String call, boolean got, boolean want) {
    seen++;
    if (got != want) {
      report(call + " answered " + got + ", due is " + want);
    }
  }

  static void same(String call, String got, String want) {
    seen++;
    if (!got.equals(want)) {
      report(call + "\n  gave   " + got + "\n  due is " + want);
    }
  }

  /** The first wrong answers tell the fault; thousands more of the same only hide it. */
  private static void report(String line) {
    wrong++;
    if (wrong <= 20) {
      System.out.println(line);
    }
  }

  static boolean anyWrong() {
    return wrong != 0;
  }

  static void finish() {
    System.out.println(wrong == 0 ? seen + " answers, all as due" : wrong + " of " + seen + " answers not as due");
    if (wrong != 0) {
      System.exit(1);
    }
  }
}

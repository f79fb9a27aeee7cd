import java.util.function.BooleanSupplier;

/** Counts the answers that are not as due; every test ends with {@link #finish}. */
final class Check {
  private static int wrong = 0;
  private static long seen = 0;

  private static String sentence = "";
  private static int sentences = 0;
  private static int wrongHere = 0;
  private static long seenBefore = 0;

  private Check() {}

  /** Begins the test of one sentence of the document, in its own words: wrong answers are told under it. */
  static void sentence(String words) {
    endSentence();
    sentence = words;
    sentences++;
    wrongHere = 0;
    seenBefore = seen;
  }

  private static void endSentence() {
    if (!sentence.isEmpty() && seen == seenBefore) {
      report("no answer was looked at");
    }
  }

  static void due(String call, long got, long want) {
    seen++;
    if (got != want) {
      report(call + " answered " + got + ", due is " + want);
    }
  }

  static void due(String call, boolean got, boolean want) {
    seen++;
    if (got != want) {
      report(call + " answered " + got + ", due is " + want);
    }
  }

  static void same(String call, String got, String want) {
    seen++;
    if (!got.equals(want)) {
      report(call + "\n  gave   " + got + "\n  due is " + want);
    }
  }

  /** The call leaves all that can be read of the object as it was. */
  static void unchanged(String call, WindowFrames w, Runnable act) {
    String before = State.of(w);
    act.run();
    same(call + " changes nothing", State.of(w), before);
  }

  static void refused(String call, WindowFrames w, BooleanSupplier act) {
    unchanged(call, w, () -> due(call, act.getAsBoolean(), false));
  }

  /** The first wrong answers tell the fault; thousands more of the same only hide it. */
  private static void report(String line) {
    wrong++;
    wrongHere++;
    if (wrongHere == 1 && !sentence.isEmpty()) {
      System.out.println("Not held: " + sentence);
    }
    if (wrongHere <= 20) {
      System.out.println(line);
    }
  }

  static boolean anyWrong() {
    return wrong != 0;
  }

  static void finish() {
    endSentence();
    String of = sentences == 0 ? "" : " to " + sentences + " sentences";
    System.out.println(wrong == 0
        ? seen + " answers" + of + ", all as due"
        : wrong + " of " + seen + " answers not as due");
    if (wrong != 0) {
      System.exit(1);
    }
  }
}

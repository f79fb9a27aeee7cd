/** All promises: long runs of calls on the program and on the model, with all that can be read compared. */
final class ModelTest {
  private static final int MIN = Integer.MIN_VALUE;
  private static final int MAX = Integer.MAX_VALUE;
  private static final int[] EXTREMES = {MIN, MIN + 1, -1, 0, 1, MAX - 1, MAX};

  private long seed;

  private ModelTest(long seed) {
    this.seed = seed;
  }

  public static void main(String[] args) {
    everySpecificationAndFunction();
    for (int run = 1; run <= 400 && !Check.anyWrong(); run++) {
      new ModelTest(run).mixedCalls(run);
    }
    Check.finish();
  }

  /** A fixed row of numbers, the same in every run of the tests. */
  private int below(int bound) {
    seed = seed * 6364136223846793005L + 1442695040888963407L;
    return (int) ((seed >>> 33) % bound);
  }

  private static void everySpecificationAndFunction() {
    for (int table = 0; table < 3 && !Check.anyWrong(); table++) {
      WindowFrames w = new WindowFrames(12);
      Model m = new Model(12);
      new ModelTest(100 + table).fill(w, m, 10, table == 2);
      for (int direction = 0; direction <= 2; direction++) {
        for (int nulls = 0; nulls <= 1; nulls++) {
          w.setOrder(direction, nulls);
          m.setOrder(direction, nulls);
          everyFrame(w, m, table == 2 ? MAX : 1 + table);
        }
      }
    }
  }

  private static void everyFrame(WindowFrames w, Model m, int offset) {
    for (int way = 0; way < 2 * 4 * 4 * 4; way++) {
      int mode = way % 2;
      int exclude = way / 2 % 4;
      int start = way / 8 % 4;
      int end = 1 + way / 32;
      w.setMode(mode, exclude);
      m.setMode(mode, exclude);
      w.setStart(start, offset);
      m.setStart(start, offset);
      w.setEnd(end, offset);
      m.setEnd(end, offset);
      for (int func = 0; func <= 11; func++) {
        String call = "compute(" + func + ", 1) with " + State.spec(w);
        Check.due(call, w.compute(func, 1), m.compute(func, 1));
        Check.same(call, State.of(w), m.state());
      }
    }
  }

  private void fill(WindowFrames w, Model m, int rows, boolean extreme) {
    for (int i = 0; i < rows; i++) {
      addRow(w, m, extreme);
    }
  }

  private String addRow(WindowFrames w, Model m, boolean extreme) {
    int part = extreme ? EXTREMES[below(2) * 6] : below(2);
    int ord = extreme ? EXTREMES[below(7)] : below(6);
    int val = extreme ? EXTREMES[below(7)] : below(9) - 4;
    int mask = below(4) == 0 ? below(4) : 0;
    if (below(4) == 0) {
      mask |= -4;
    }
    String call = "addRow(" + part + ", " + ord + ", " + val + ", " + mask + ")";
    Check.due(call, w.addRow(part, ord, val, mask), m.addRow(part, ord, val, mask));
    return call;
  }

  private void mixedCalls(int run) {
    int capacity = below(44) - 3;
    WindowFrames w = new WindowFrames(capacity);
    Model m = new Model(capacity);
    boolean extreme = run % 4 == 0;
    for (int step = 0; step < 120 && !Check.anyWrong(); step++) {
      String call = "run " + run + ", step " + step + ": " + oneCall(w, m, extreme);
      Check.same(call, State.of(w), m.state());
    }
  }

  private String oneCall(WindowFrames w, Model m, boolean extreme) {
    int choice = below(100);
    if (choice < 40) {
      return addRow(w, m, extreme);
    }
    if (choice < 41) {
      w.clear();
      m.clear();
      return "clear()";
    }
    int kind = below(7) - 1;
    int offset = extreme || below(8) == 0 ? EXTREMES[below(7)] : below(5);
    if (choice < 50) {
      String call = "setOrder(" + kind + ", " + (offset & 1) + ")";
      Check.due(call, w.setOrder(kind, offset & 1), m.setOrder(kind, offset & 1));
      return call;
    }
    if (choice < 60) {
      int mode = below(8) == 0 ? offset : below(2);
      String call = "setMode(" + mode + ", " + kind + ")";
      Check.due(call, w.setMode(mode, kind), m.setMode(mode, kind));
      return call;
    }
    if (choice < 68) {
      String call = "setStart(" + kind + ", " + offset + ")";
      Check.due(call, w.setStart(kind, offset), m.setStart(kind, offset));
      return call;
    }
    if (choice < 76) {
      String call = "setEnd(" + kind + ", " + offset + ")";
      Check.due(call, w.setEnd(kind, offset), m.setEnd(kind, offset));
      return call;
    }
    int func = below(14) - 1;
    String call = "compute(" + func + ", " + offset + ")";
    Check.due(call, w.compute(func, offset), m.compute(func, offset));
    return call;
  }
}

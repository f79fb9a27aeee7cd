import java.util.function.Consumer;

/** Objects in states that the boundary tests begin from, and the frame of a row read back as ids. */
final class Fixture {
  /** The specification of a new object, as {@link State#spec} tells it. */
  static final String NEW_SPEC = "spec 1 0 1 0 0 0 2 0 -1";
  /** The specification of {@link #busy} and {@link #full}. */
  static final String BUSY_SPEC = "spec 2 1 0 3 1 4 3 5 3";

  private static final String NEW_STATE = NEW_SPEC + " rows 0/8 results order";
  private static final String FULL_STATE = BUSY_SPEC
      + " rows 8/8 (1 5 50 0) (1 0 60 1) (2 7 0 2) (1 9 80 0) (2 7 90 0) (3 -1 -10 0) (3 -2 -20 0) (3 -3 -30 0)"
      + " results 80 - - 60 - - -10 -20"
      + " order 1 3 0 2 4 5 6 7";

  private Fixture() {}

  /** Five of eight rows; no part of the specification at its initial value; numbers and NULLs as results. */
  static WindowFrames busy() {
    WindowFrames w = new WindowFrames(8);
    w.setOrder(WindowFrames.ORDER_DESC, WindowFrames.NULLS_FIRST);
    w.setMode(WindowFrames.MODE_ROWS, WindowFrames.EXCLUDE_TIES);
    w.setStart(WindowFrames.BOUND_PRECEDING, 4);
    w.setEnd(WindowFrames.BOUND_FOLLOWING, 5);
    w.addRow(1, 5, 50, 0);
    w.addRow(1, 5, 60, WindowFrames.NULL_ORD);
    w.addRow(2, 7, 70, WindowFrames.NULL_VAL);
    w.addRow(1, 9, 80, 0);
    w.addRow(2, 7, 90, 0);
    w.compute(WindowFrames.FN_LAG, 1);
    return w;
  }

  /** As busy, with no room left. */
  static WindowFrames full() {
    WindowFrames w = busy();
    w.addRow(3, -1, -10, 0);
    w.addRow(3, -2, -20, 0);
    w.addRow(3, -3, -30, 0);
    w.compute(WindowFrames.FN_LAG, 1);
    return w;
  }

  /**
   * The call leaves a new and a full object as they are known to be. Their state is not read before it: what
   * the reading itself changes would then be taken for the state.
   */
  static void changesNothing(String call, Consumer<WindowFrames> reading) {
    WindowFrames fresh = new WindowFrames(8);
    reading.accept(fresh);
    Check.same(call + " of a new object changes nothing", State.of(fresh), NEW_STATE);
    WindowFrames full = full();
    reading.accept(full);
    Check.same(call + " of a full table changes nothing", State.of(full), FULL_STATE);
  }

  /** One partition with these order keys, under the initial specification; row i has the value 2 to the i. */
  static WindowFrames keys(int... keys) {
    WindowFrames w = new WindowFrames(32);
    for (int i = 0; i < keys.length; i++) {
      w.addRow(0, keys[i], 1 << i, 0);
    }
    return w;
  }

  /** Adds a row without an order key to a table made by {@link #keys}. */
  static void addNullKey(WindowFrames w) {
    w.addRow(0, 0, 1 << w.rowCount(), WindowFrames.NULL_ORD);
  }

  /** The ids of the rows in the frame of row, smallest first; "" for an empty frame. */
  static String frame(WindowFrames w, int row) {
    if (!w.compute(WindowFrames.FN_SUM, 0)) {
      return "compute was refused";
    }
    long sum = w.result(row);
    StringBuilder ids = new StringBuilder();
    for (int id = 0; id < w.rowCount(); id++) {
      if ((sum >> id & 1) != 0) {
        ids.append(ids.length() == 0 ? "" : " ").append(id);
      }
    }
    return ids.toString();
  }

  /** A full table of one partition whose row i has the key and the value i. */
  static WindowFrames thirtyTwo() {
    WindowFrames w = new WindowFrames(32);
    for (int i = 0; i < 32; i++) {
      w.addRow(0, i, i, 0);
    }
    return w;
  }
}

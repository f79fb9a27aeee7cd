/** Promises 11 and 12: result, resultIsNull and rowAt. */
final class ReadingTest {
  private static final int MIN = Integer.MIN_VALUE;
  private static final int MAX = Integer.MAX_VALUE;

  public static void main(String[] args) {
    promise11StoredNumbersAndNulls();
    promise11RowsThatAreNotThere();
    promise11ResultsStay();
    promise11RowsAddedLater();
    promise11ChangesNothing();
    promise12SortSteps();
    promise12ExtremeKeys();
    promise12NullKeys();
    promise12OtherPositions();
    promise12EveryIdOnce();
    promise12ChangesNothing();
    Check.finish();
  }

  private static void promise11StoredNumbersAndNulls() {
    WindowFrames w = new WindowFrames(8);
    w.addRow(0, 1, 0, 0);
    w.addRow(0, 2, -5, 0);
    w.addRow(0, 3, 7, WindowFrames.NULL_VAL);
    for (int row = 0; row < 3; row++) {
      Check.due("result of a new row", w.result(row), 0);
      Check.due("resultIsNull of a new row", w.resultIsNull(row), true);
    }
    w.compute(WindowFrames.FN_LAG, 0);
    Check.due("result(0)", w.result(0), 0);
    Check.due("resultIsNull(0): zero is not NULL", w.resultIsNull(0), false);
    Check.due("result(1)", w.result(1), -5);
    Check.due("resultIsNull(1)", w.resultIsNull(1), false);
    Check.due("result(2)", w.result(2), 0);
    Check.due("resultIsNull(2)", w.resultIsNull(2), true);
    w.compute(WindowFrames.FN_ROW_NUMBER, 0);
    Check.due("result(2), no more NULL", w.result(2), 3);
    Check.due("resultIsNull(2), no more NULL", w.resultIsNull(2), false);
    w.compute(WindowFrames.FN_LAG, 3);
    Check.same("a NULL leaves no number behind", State.results(w), "results - - -");
  }

  private static void promise11RowsThatAreNotThere() {
    WindowFrames w = new WindowFrames(8);
    int[] rows = {MIN, -1, 0, 1, 2, 7, 8, 31, 32, 33, MAX};
    for (int row : rows) {
      Check.due("result(" + row + ") of an empty table", w.result(row), 0);
      Check.due("resultIsNull(" + row + ") of an empty table", w.resultIsNull(row), true);
    }
    for (int i = 0; i < 8; i++) {
      w.addRow(0, i, 100 + i, 0);
    }
    w.compute(WindowFrames.FN_SUM, 0);
    w.clear();
    w.addRow(0, 0, 55, 0);
    w.compute(WindowFrames.FN_SUM, 0);
    for (int row : rows) {
      Check.due("result(" + row + ") of one row", w.result(row), row == 0 ? 55 : 0);
      Check.due("resultIsNull(" + row + ") of one row", w.resultIsNull(row), row != 0);
    }
  }

  private static void promise11ResultsStay() {
    WindowFrames w = new WindowFrames(8);
    w.addRow(0, 2, 10, 0);
    w.addRow(0, 1, 20, 0);
    w.compute(WindowFrames.FN_LAG, 1);
    String due = "results 20 -";
    Check.same("compute", State.results(w), due);
    w.setOrder(WindowFrames.ORDER_DESC, WindowFrames.NULLS_FIRST);
    Check.same("after setOrder", State.results(w), due);
    w.setMode(WindowFrames.MODE_ROWS, WindowFrames.EXCLUDE_GROUP);
    Check.same("after setMode", State.results(w), due);
    w.setStart(WindowFrames.BOUND_FOLLOWING, 2);
    Check.same("after setStart", State.results(w), due);
    w.setEnd(WindowFrames.BOUND_FOLLOWING, 1);
    Check.same("after setEnd", State.results(w), due);
    w.compute(99, 0);
    w.compute(WindowFrames.FN_LEAD, -1);
    w.setOrder(7, 7);
    w.setMode(7, 7);
    w.setStart(4, 0);
    w.setEnd(0, 0);
    Check.same("after refused calls", State.results(w), due);
    w.setOrder(WindowFrames.ORDER_NONE, 0);
    w.setMode(WindowFrames.MODE_RANGE, 0);
    w.compute(WindowFrames.FN_COUNT, 0);
    Check.same("after a compute refused for its bounds", State.results(w), due);
  }

  private static void promise11RowsAddedLater() {
    WindowFrames w = new WindowFrames(8);
    w.addRow(0, 1, 10, 0);
    w.compute(WindowFrames.FN_COUNT_STAR, 0);
    w.addRow(0, 1, 20, 0);
    Check.same("a row added later", State.results(w), "results 1 -");
    w.compute(WindowFrames.FN_LAG, -1);
    Check.same("a refused compute", State.results(w), "results 1 -");
    w.compute(WindowFrames.FN_COUNT_STAR, 0);
    Check.same("the next compute", State.results(w), "results 2 2");
  }

  private static void promise11ChangesNothing() {
    WindowFrames w = sample();
    w.compute(WindowFrames.FN_LAG, 1);
    String before = State.of(w);
    for (int row = -2; row < 40; row++) {
      w.result(row);
      w.resultIsNull(row);
    }
    Check.same("result and resultIsNull", State.of(w), before);
  }

  private static void promise12SortSteps() {
    WindowFrames w = sample();
    Check.same("ASC NULLS LAST", State.order(w), "order 5 1 3 0 4 2 6");
    w.setOrder(WindowFrames.ORDER_ASC, WindowFrames.NULLS_FIRST);
    Check.same("ASC NULLS FIRST", State.order(w), "order 5 2 6 1 3 0 4");
    w.setOrder(WindowFrames.ORDER_DESC, WindowFrames.NULLS_LAST);
    Check.same("DESC NULLS LAST", State.order(w), "order 5 0 4 1 3 2 6");
    w.setOrder(WindowFrames.ORDER_DESC, WindowFrames.NULLS_FIRST);
    Check.same("DESC NULLS FIRST", State.order(w), "order 5 2 6 0 4 1 3");
    w.setOrder(WindowFrames.ORDER_NONE, WindowFrames.NULLS_LAST);
    Check.same("no order, NULLS LAST", State.order(w), "order 5 0 1 2 3 4 6");
    w.setOrder(WindowFrames.ORDER_NONE, WindowFrames.NULLS_FIRST);
    Check.same("no order, NULLS FIRST", State.order(w), "order 5 0 1 2 3 4 6");
  }

  /** Partition 2 has two pairs of peers and two NULL keys; partition -1 comes before it. */
  private static WindowFrames sample() {
    WindowFrames w = new WindowFrames(8);
    w.addRow(2, 9, 1, 0);
    w.addRow(2, 4, 2, 0);
    w.addRow(2, 6, 3, WindowFrames.NULL_ORD);
    w.addRow(2, 4, 4, WindowFrames.NULL_VAL);
    w.addRow(2, 9, 5, 0);
    w.addRow(-1, 50, 6, 0);
    w.addRow(2, 1, 7, WindowFrames.NULL_ORD);
    return w;
  }

  private static void promise12ExtremeKeys() {
    WindowFrames w = new WindowFrames(8);
    w.addRow(MAX, 0, 0, 0);
    w.addRow(MIN, 0, 0, 0);
    w.addRow(0, MAX, 0, 0);
    w.addRow(0, MIN, 0, 0);
    w.addRow(0, 0, 0, 0);
    Check.same("ASC", State.order(w), "order 1 3 4 2 0");
    w.setOrder(WindowFrames.ORDER_DESC, 0);
    Check.same("DESC", State.order(w), "order 1 2 4 3 0");
  }

  /** A NULL key is neither 0 nor an extreme key, and what was passed for it does not count. */
  private static void promise12NullKeys() {
    WindowFrames w = new WindowFrames(8);
    w.addRow(0, MAX, 0, WindowFrames.NULL_ORD);
    w.addRow(0, MIN, 0, WindowFrames.NULL_ORD);
    w.addRow(0, MAX, 0, 0);
    w.addRow(0, MIN, 0, 0);
    w.addRow(0, 0, 0, 0);
    Check.same("ASC NULLS LAST", State.order(w), "order 3 4 2 0 1");
    w.setOrder(WindowFrames.ORDER_ASC, WindowFrames.NULLS_FIRST);
    Check.same("ASC NULLS FIRST", State.order(w), "order 0 1 3 4 2");
    w.setOrder(WindowFrames.ORDER_DESC, WindowFrames.NULLS_LAST);
    Check.same("DESC NULLS LAST", State.order(w), "order 2 4 3 0 1");
    w.setOrder(WindowFrames.ORDER_DESC, WindowFrames.NULLS_FIRST);
    Check.same("DESC NULLS FIRST", State.order(w), "order 0 1 2 4 3");
  }

  private static void promise12OtherPositions() {
    int[] outside = {MIN, -2, -1, 7, 8, 31, 32, 33, MAX};
    WindowFrames w = sample();
    WindowFrames empty = new WindowFrames(32);
    for (int pos : outside) {
      Check.due("rowAt(" + pos + ") of seven rows", w.rowAt(pos), -1);
      Check.due("rowAt(" + pos + ") of an empty table", empty.rowAt(pos), -1);
    }
    Check.due("rowAt(0) of an empty table", empty.rowAt(0), -1);
    w.clear();
    Check.due("rowAt(0) of a cleared table", w.rowAt(0), -1);
  }

  private static void promise12EveryIdOnce() {
    for (int direction = 0; direction <= 2; direction++) {
      WindowFrames w = new WindowFrames(32);
      w.setOrder(direction, direction % 2);
      for (int i = 0; i < 32; i++) {
        w.addRow(i % 3, i % 5, i, i % 4);
      }
      boolean[] met = new boolean[32];
      for (int pos = 0; pos < 32; pos++) {
        int row = w.rowAt(pos);
        boolean fresh = row >= 0 && row < 32 && !met[row];
        Check.due("rowAt(" + pos + ") is a fresh id", fresh, true);
        if (fresh) {
          met[row] = true;
        }
      }
    }
  }

  private static void promise12ChangesNothing() {
    WindowFrames w = sample();
    w.compute(WindowFrames.FN_ROW_NUMBER, 0);
    w.setOrder(WindowFrames.ORDER_DESC, WindowFrames.NULLS_FIRST);
    String before = State.of(w);
    for (int pos = -2; pos < 40; pos++) {
      w.rowAt(pos);
    }
    Check.same("rowAt", State.of(w), before);
    Check.same("rowAt leaves results", State.results(w), "results 3 1 5 2 4 1 6");
  }
}

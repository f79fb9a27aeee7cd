/** The sentences of promises 11 and 12, one test each: rows and positions that are not there, and what stays. */
final class ReadingBoundaryTest {
  private static final int MIN = Integer.MIN_VALUE;
  private static final int MAX = Integer.MAX_VALUE;
  private static final int[] FAR = {MIN, MIN + 1, -65536, -256, 256, 65536, 1 << 24, MAX - 1, MAX};

  public static void main(String[] args) {
    resultAnswersTheStored();
    resultOfNull();
    resultOfOtherRows();
    resultIsNullOfNull();
    resultIsNullOfOtherRows();
    resultIsNullFalseOtherwise();
    zeroWheneverNull();
    resultsStayThroughSetters();
    resultsStayThroughRefusedCalls();
    laterRowsHoldNull();
    readingChangesNothing();

    rowAtFollowsTheOrder();
    rowAtFollowsTheCurrentSpecification();
    rowAtOtherPositions();
    rowAtOfAnEmptyTable();
    everyIdOnce();
    rowAtChangesNothing();
    Check.finish();
  }

  // ---- Promise 11 ----

  private static void resultAnswersTheStored() {
    Check.sentence("`result(row)` answers row's stored result;");
    int[] values = {MIN, -1, 0, 1, MAX};
    WindowFrames w = new WindowFrames(8);
    for (int i = 0; i < values.length; i++) {
      w.addRow(0, i, values[i], 0);
    }
    w.compute(WindowFrames.FN_LAG, 0);
    for (int row = 0; row < values.length; row++) {
      Check.due("result(" + row + ")", w.result(row), values[row]);
    }
    WindowFrames high = new WindowFrames(32);
    for (int i = 0; i < 32; i++) {
      high.addRow(0, 0, MAX, 0);
    }
    high.compute(WindowFrames.FN_SUM, 0);
    Check.due("a result beyond int in the first row", high.result(0), 68719476704L);
    Check.due("a result beyond int in the last row", high.result(31), 68719476704L);
  }

  private static void resultOfNull() {
    Check.sentence("it answers 0 if that stored result is NULL");
    WindowFrames w = Fixture.full();
    for (int row = 0; row < 8; row++) {
      w.compute(WindowFrames.FN_ROW_NUMBER, 0);
      Check.due("result of a number", w.result(row) != 0, true);
      w.compute(WindowFrames.FN_LAG, 8);
      Check.due("result of a NULL", w.result(row), 0);
    }
    WindowFrames fresh = new WindowFrames(8);
    fresh.addRow(1, 2, 3, 0);
    Check.due("result of a new row", fresh.result(0), 0);
  }

  /** Tables whose places hold numbers, also where no row is any more. */
  private static WindowFrames[] tables() {
    WindowFrames cleared = numbered(32);
    cleared.clear();
    WindowFrames refilled = numbered(32);
    refilled.clear();
    refilled.addRow(1, 2, 3, 0);
    refilled.compute(WindowFrames.FN_ROW_NUMBER, 0);
    WindowFrames[] tables = {new WindowFrames(8), cleared, refilled, numbered(8), numbered(31), numbered(32)};
    return tables;
  }

  private static WindowFrames numbered(int rows) {
    WindowFrames w = new WindowFrames(rows);
    for (int i = 0; i < rows; i++) {
      w.addRow(1, 2, 3, 0);
    }
    w.compute(WindowFrames.FN_ROW_NUMBER, 0);
    return w;
  }

  private static void resultOfOtherRows() {
    Check.sentence("or row is not in 0..`rowCount()`-1.");
    for (WindowFrames w : tables()) {
      int rows = w.rowCount();
      for (int row = -40; row < 80; row++) {
        boolean there = row >= 0 && row < rows;
        Check.due("result(" + row + ") of " + rows + " rows", w.result(row), there ? row + 1 : 0);
      }
      for (int row : FAR) {
        Check.due("result(" + row + ") of " + rows + " rows", w.result(row), 0);
      }
    }
  }

  private static void resultIsNullOfNull() {
    Check.sentence("`resultIsNull(row)` answers true if row's stored result is NULL");
    WindowFrames w = numbered(32);
    w.compute(WindowFrames.FN_LEAD, 32);
    for (int row = 0; row < 32; row++) {
      Check.due("resultIsNull(" + row + ")", w.resultIsNull(row), true);
    }
    WindowFrames fresh = new WindowFrames(8);
    fresh.addRow(1, 2, 3, 0);
    Check.due("resultIsNull of a new row", fresh.resultIsNull(0), true);
  }

  private static void resultIsNullOfOtherRows() {
    Check.sentence("answers true if row's stored result is NULL or row is not in 0..`rowCount()`-1");
    for (WindowFrames w : tables()) {
      int rows = w.rowCount();
      for (int row = -40; row < 80; row++) {
        if (row < 0 || row >= rows) {
          Check.due("resultIsNull(" + row + ") of " + rows + " rows", w.resultIsNull(row), true);
        }
      }
      for (int row : FAR) {
        Check.due("resultIsNull(" + row + ") of " + rows + " rows", w.resultIsNull(row), true);
      }
    }
  }

  private static void resultIsNullFalseOtherwise() {
    Check.sentence("false otherwise.");
    for (WindowFrames w : tables()) {
      for (int row = 0; row < w.rowCount(); row++) {
        Check.due("resultIsNull(" + row + ") of " + w.rowCount() + " rows", w.resultIsNull(row), false);
      }
    }
    WindowFrames zero = new WindowFrames(8);
    zero.addRow(0, 0, 0, 0);
    zero.compute(WindowFrames.FN_SUM, 0);
    Check.due("resultIsNull of the number 0", zero.resultIsNull(0), false);
  }

  private static void zeroWheneverNull() {
    Check.sentence("So `result(row)` is 0 whenever `resultIsNull(row)` is true.");
    for (int func = 0; func <= 11; func++) {
      WindowFrames w = Fixture.full();
      w.compute(WindowFrames.FN_ROW_NUMBER, 0);
      w.compute(func, 1);
      for (int row = -10; row < 40; row++) {
        Check.due("compute(" + func + "), row " + row, w.resultIsNull(row) && w.result(row) != 0, false);
      }
    }
  }

  private static void resultsStayThroughSetters() {
    Check.sentence("Stored results stay as the last successful `compute` left them, through later setter calls");
    WindowFrames w = Fixture.full();
    String due = State.results(w);
    for (int way = 0; way < 3 * 2 * 4 * 2; way++) {
      w.setOrder(way % 3, way / 24);
      Check.same("setOrder", State.results(w), due);
      w.setMode(way / 12 % 2, way % 4);
      Check.same("setMode", State.results(w), due);
      w.setStart(way % 4, way);
      Check.same("setStart", State.results(w), due);
      w.setEnd(1 + way % 4, way);
      Check.same("setEnd", State.results(w), due);
    }
  }

  private static void resultsStayThroughRefusedCalls() {
    Check.sentence("and refused calls;");
    WindowFrames w = Fixture.full();
    String due = State.results(w);
    Check.due("addRow", w.addRow(1, 2, 3, 0), -1);
    Check.due("setOrder", w.setOrder(3, 0), false);
    Check.due("setMode", w.setMode(2, 0), false);
    Check.due("setStart", w.setStart(4, 0), false);
    Check.due("setEnd", w.setEnd(0, 0), false);
    Check.due("compute, func", w.compute(12, 0), false);
    Check.due("compute, arg", w.compute(WindowFrames.FN_LAG, -1), false);
    Check.same("refused calls", State.results(w), due);
    w.setOrder(WindowFrames.ORDER_NONE, 0);
    w.setMode(WindowFrames.MODE_RANGE, 0);
    for (int func = 0; func <= 11; func++) {
      Check.due("compute, bounds", w.compute(func, 0), false);
      Check.same("compute refused for its bounds", State.results(w), due);
    }
  }

  private static void laterRowsHoldNull() {
    Check.sentence("a row added after that `compute` holds NULL until the next successful one.");
    WindowFrames w = new WindowFrames(8);
    w.compute(WindowFrames.FN_COUNT_STAR, 0);
    w.addRow(0, 0, 5, 0);
    Check.same("after compute over no rows", State.results(w), "results -");
    w.compute(WindowFrames.FN_COUNT_STAR, 0);
    for (int i = 1; i < 8; i++) {
      w.addRow(0, 0, 5, 0);
    }
    Check.same("seven rows later", State.results(w), "results 1 - - - - - - -");
    w.compute(12, 0);
    w.compute(WindowFrames.FN_LEAD, MIN);
    Check.same("refused computes", State.results(w), "results 1 - - - - - - -");
    w.compute(WindowFrames.FN_COUNT_STAR, 0);
    Check.same("the next compute", State.results(w), "results 8 8 8 8 8 8 8 8");
  }

  private static void readingChangesNothing() {
    Check.sentence("Neither call changes anything.");
    for (int row = -2; row < 34; row++) {
      int at = row;
      Fixture.changesNothing("result(" + row + ")", w -> w.result(at));
      Fixture.changesNothing("resultIsNull(" + row + ")", w -> w.resultIsNull(at));
    }
    for (int row : FAR) {
      Fixture.changesNothing("result(" + row + ")", w -> w.result(row));
      Fixture.changesNothing("resultIsNull(" + row + ")", w -> w.resultIsNull(row));
    }
  }

  // ---- Promise 12 ----

  private static void rowAtFollowsTheOrder() {
    Check.sentence("`rowAt(pos)` answers the id of the row at index pos of the whole table in the current sort order");
    WindowFrames w = new WindowFrames(32);
    for (int i = 0; i < 32; i++) {
      w.addRow(-(i / 8), -i, 0, 0);
    }
    for (int pos = 0; pos < 32; pos++) {
      Check.due("rowAt(" + pos + ") of rows added backwards", w.rowAt(pos), 31 - pos);
    }
    WindowFrames one = new WindowFrames(8);
    one.addRow(MAX, MAX, MAX, 3);
    Check.due("rowAt(0) of one row", one.rowAt(0), 0);
    Check.due("rowAt(1) of one row", one.rowAt(1), -1);
    Check.due("rowAt(-1) of one row", one.rowAt(-1), -1);
  }

  private static void rowAtFollowsTheCurrentSpecification() {
    Check.sentence("(under the specification in force at this call, not at the last `compute`)");
    WindowFrames w = Fixture.keys(2, 1, 3);
    w.compute(WindowFrames.FN_ROW_NUMBER, 0);
    Check.same("at the compute", State.order(w), "order 1 0 2");
    w.setOrder(WindowFrames.ORDER_DESC, WindowFrames.NULLS_LAST);
    Check.same("after setOrder", State.order(w), "order 2 0 1");
    w.setOrder(WindowFrames.ORDER_NONE, WindowFrames.NULLS_LAST);
    Check.same("after setOrder", State.order(w), "order 0 1 2");
    w.addRow(-1, 9, 9, 0);
    Check.same("after addRow", State.order(w), "order 3 0 1 2");
    w.setOrder(3, 0);
    Check.same("after a refused setOrder", State.order(w), "order 3 0 1 2");
  }

  private static void rowAtOtherPositions() {
    Check.sentence("it answers -1 for any other pos, negative or too large");
    for (WindowFrames w : tables()) {
      int rows = w.rowCount();
      for (int pos = -40; pos < 80; pos++) {
        boolean there = pos >= 0 && pos < rows;
        Check.due("rowAt(" + pos + ") of " + rows + " rows", w.rowAt(pos), there ? pos : -1);
      }
      for (int pos : FAR) {
        Check.due("rowAt(" + pos + ") of " + rows + " rows", w.rowAt(pos), -1);
      }
    }
  }

  private static void rowAtOfAnEmptyTable() {
    Check.sentence("and for every pos when the table is empty.");
    WindowFrames cleared = Fixture.full();
    cleared.clear();
    WindowFrames[] empty = {new WindowFrames(MIN), new WindowFrames(8), new WindowFrames(MAX), cleared};
    for (WindowFrames w : empty) {
      for (int pos = -40; pos < 80; pos++) {
        Check.due("rowAt(" + pos + ")", w.rowAt(pos), -1);
      }
      for (int pos : FAR) {
        Check.due("rowAt(" + pos + ")", w.rowAt(pos), -1);
      }
    }
  }

  private static void everyIdOnce() {
    Check.sentence("As pos runs over 0..`rowCount()`-1, every id appears exactly once.");
    for (int rows = 1; rows <= 32; rows++) {
      WindowFrames w = new WindowFrames(32);
      for (int i = 0; i < rows; i++) {
        w.addRow(i * 7 % 3 == 0 ? MIN : MAX, i * 5 % 4 - 2, i, i * 3 % 4);
      }
      for (int way = 0; way < 6; way++) {
        w.setOrder(way % 3, way / 3);
        long met = 0;
        for (int pos = 0; pos < rows; pos++) {
          met |= 1L << w.rowAt(pos);
        }
        Check.due("ids met in " + rows + " rows", met, (1L << rows) - 1);
      }
    }
  }

  private static void rowAtChangesNothing() {
    Check.sentence("The call changes nothing.");
    for (int pos = -2; pos < 34; pos++) {
      int at = pos;
      Fixture.changesNothing("rowAt(" + pos + ")", w -> w.rowAt(at));
    }
    for (int pos : FAR) {
      Fixture.changesNothing("rowAt(" + pos + ")", w -> w.rowAt(pos));
    }
  }
}

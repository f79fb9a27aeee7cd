/** Promises 1 to 5 and 13: the table and its rows. */
final class TableTest {
  private static final int MIN = Integer.MIN_VALUE;
  private static final int MAX = Integer.MAX_VALUE;
  private static final String NEW_SPEC = "spec 1 0 1 0 0 0 2 0 -1";

  public static void main(String[] args) {
    promise1Construction();
    promise2Capacity();
    promise3RowCount();
    promise4AddRowAnswers();
    promise4NullMask();
    promise4AddRowChangesNothingElse();
    promise4FullTable();
    promise5Clear();
    promise5ClearOfEmptyTable();
    promise13RowField();
    promise13OtherRowsAndFields();
    Check.finish();
  }

  private static void promise1Construction() {
    int[] asked = {MIN, -1, 0, 7, 8, 9, 16, 31, 32, 33, 100, MAX};
    int[] due = {8, 8, 8, 8, 8, 9, 16, 31, 32, 32, 32, 32};
    for (int i = 0; i < asked.length; i++) {
      WindowFrames w = new WindowFrames(asked[i]);
      Check.due("new(" + asked[i] + ").capacity()", w.capacity(), due[i]);
      Check.due("new(" + asked[i] + ").rowCount()", w.rowCount(), 0);
      Check.same("new(" + asked[i] + ")", State.spec(w), NEW_SPEC);
    }
  }

  private static void promise2Capacity() {
    for (int capacity = 8; capacity <= 32; capacity++) {
      WindowFrames w = new WindowFrames(capacity);
      for (int i = 0; i < 40; i++) {
        w.addRow(i, i, i, i);
        Check.due("capacity() after " + (i + 1) + " addRow", w.capacity(), capacity);
      }
      w.compute(WindowFrames.FN_SUM, 0);
      w.setOrder(2, 1);
      w.clear();
      Check.due("capacity() after clear", w.capacity(), capacity);
    }
    WindowFrames w = filled();
    String before = State.of(w);
    w.capacity();
    Check.same("capacity() changes nothing", State.of(w), before);
  }

  private static void promise3RowCount() {
    for (int capacity = 8; capacity <= 32; capacity++) {
      WindowFrames w = new WindowFrames(capacity);
      for (int i = 0; i < capacity + 3; i++) {
        Check.due("rowCount() of " + i, w.rowCount(), Math.min(i, capacity));
        w.addRow(0, 0, 0, 0);
      }
      Check.due("rowCount() when full", w.rowCount(), capacity);
      w.clear();
      Check.due("rowCount() after clear", w.rowCount(), 0);
    }
    WindowFrames w = filled();
    String before = State.of(w);
    w.rowCount();
    Check.same("rowCount() changes nothing", State.of(w), before);
  }

  private static void promise4AddRowAnswers() {
    WindowFrames w = new WindowFrames(10);
    for (int i = 0; i < 10; i++) {
      Check.due("addRow number " + i, w.addRow(-i, i, 2 * i, 0), i);
    }
    Check.due("addRow to a full table", w.addRow(1, 1, 1, 0), -1);
    Check.due("addRow to a full table again", w.addRow(1, 1, 1, 3), -1);
  }

  private static void promise4NullMask() {
    int[] masks = {0, 1, 2, 3, 4, 5, 6, 7, -1, -2, -3, -4, -5, 8, MIN, MIN + 1, MAX, MAX - 1, MAX - 3};
    int[] kept = {0, 1, 2, 3, 0, 1, 2, 3, 3, 2, 1, 0, 3, 0, 0, 1, 3, 2, 0};
    for (int i = 0; i < masks.length; i++) {
      WindowFrames w = new WindowFrames(8);
      w.addRow(5, 6, 7, masks[i]);
      String call = "addRow(5, 6, 7, " + masks[i] + ")";
      Check.due(call + " part", w.rowField(0, WindowFrames.FIELD_PART), 5);
      Check.due(call + " ord", w.rowField(0, WindowFrames.FIELD_ORD), (kept[i] & 1) != 0 ? 0 : 6);
      Check.due(call + " val", w.rowField(0, WindowFrames.FIELD_VAL), (kept[i] & 2) != 0 ? 0 : 7);
      Check.due(call + " mask", w.rowField(0, WindowFrames.FIELD_MASK), kept[i]);
    }
  }

  private static void promise4AddRowChangesNothingElse() {
    WindowFrames w = new WindowFrames(12);
    w.setOrder(2, 1);
    w.setMode(0, 3);
    w.setStart(1, 4);
    w.setEnd(3, 5);
    w.addRow(1, 10, 100, 0);
    w.addRow(1, 20, 200, 0);
    w.compute(WindowFrames.FN_ROW_NUMBER, 0);
    w.addRow(1, 30, 300, 0);
    Check.same("addRow", State.spec(w), "spec 2 1 0 3 1 4 3 5 0");
    Check.same("addRow", State.rows(w), "rows 3/12 (1 10 100 0) (1 20 200 0) (1 30 300 0)");
    Check.same("addRow", State.results(w), "results 2 1 -");
    Check.same("addRow", State.order(w), "order 2 1 0");
  }

  private static void promise4FullTable() {
    WindowFrames w = filled();
    Check.due("filled", w.rowCount(), w.capacity());
    String before = State.of(w);
    Check.due("addRow to a full table", w.addRow(99, 98, 97, 0), -1);
    Check.same("a refused addRow changes nothing", State.of(w), before);
  }

  private static void promise5Clear() {
    WindowFrames w = filled();
    w.setOrder(2, 1);
    w.setMode(0, 2);
    w.setStart(1, 7);
    w.setEnd(3, MAX);
    w.compute(WindowFrames.FN_COUNT_STAR, 0);
    w.clear();
    Check.same("clear keeps all but lastFunc", State.spec(w), "spec 2 1 0 2 1 7 3 " + MAX + " -1");
    Check.same("clear", State.rows(w), "rows 0/8");
    for (int row = -1; row <= 8; row++) {
      Check.due("resultIsNull(" + row + ") after clear", w.resultIsNull(row), true);
      Check.due("result(" + row + ") after clear", w.result(row), 0);
      Check.due("rowAt(" + row + ") after clear", w.rowAt(row), -1);
      for (int field = 0; field <= 3; field++) {
        Check.due("rowField after clear", w.rowField(row, field), 0);
      }
    }
    Check.due("addRow after clear", w.addRow(4, 5, 6, 0), 0);
    Check.due("rowCount after clear and addRow", w.rowCount(), 1);
    Check.same("a row added after clear holds NULL", State.results(w), "results -");
    Check.same("a row added after clear", State.rows(w), "rows 1/8 (4 5 6 0)");
    for (int i = 1; i < 8; i++) {
      Check.due("addRow after clear", w.addRow(0, 0, 0, 0), i);
    }
    Check.due("addRow to the table filled again", w.addRow(0, 0, 0, 0), -1);
  }

  private static void promise5ClearOfEmptyTable() {
    WindowFrames w = new WindowFrames(8);
    w.clear();
    Check.same("clear of a new object", State.of(w), NEW_SPEC + " rows 0/8 results order");
    w.compute(WindowFrames.FN_MAX, 0);
    Check.due("lastFunc before clear", w.specField(WindowFrames.SPEC_LAST_FUNC), WindowFrames.FN_MAX);
    w.clear();
    w.clear();
    Check.same("clear of an empty table", State.of(w), NEW_SPEC + " rows 0/8 results order");
  }

  private static void promise13RowField() {
    WindowFrames w = new WindowFrames(8);
    w.addRow(MIN, MAX, MIN, 0);
    w.addRow(MAX, MIN, MAX, 0);
    w.addRow(-7, 8, -9, 1);
    w.addRow(7, -8, 9, 2);
    w.addRow(1, 2, 3, 3);
    w.addRow(0, -1, -1, 0);
    Check.same("rowField", State.rows(w), "rows 6/8"
        + " (" + MIN + " " + MAX + " " + MIN + " 0)"
        + " (" + MAX + " " + MIN + " " + MAX + " 0)"
        + " (-7 0 -9 1) (7 -8 0 2) (1 0 0 3) (0 -1 -1 0)");
    String before = State.of(w);
    w.rowField(2, WindowFrames.FIELD_MASK);
    w.rowField(99, 99);
    Check.same("rowField changes nothing", State.of(w), before);
  }

  private static void promise13OtherRowsAndFields() {
    WindowFrames w = new WindowFrames(8);
    w.addRow(1, 2, 3, 0);
    w.addRow(4, 5, 6, 3);
    int[] noFields = {MIN, -1, 4, 5, 8, MAX};
    for (int field : noFields) {
      Check.due("rowField(0, " + field + ")", w.rowField(0, field), 0);
      Check.due("rowField(1, " + field + ")", w.rowField(1, field), 0);
    }
    int[] noRows = {MIN, -1, 2, 7, 8, 31, 32, 33, MAX};
    for (int row : noRows) {
      for (int field = -1; field <= 4; field++) {
        Check.due("rowField(" + row + ", " + field + ")", w.rowField(row, field), 0);
      }
    }
  }

  /** A full table with results of every kind. */
  private static WindowFrames filled() {
    WindowFrames w = new WindowFrames(8);
    for (int i = 0; i < 8; i++) {
      w.addRow(i % 2 + 1, 10 - i, 20 + i, i % 4);
    }
    w.compute(WindowFrames.FN_LAG, 1);
    return w;
  }
}

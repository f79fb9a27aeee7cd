/** The sentences of promises 1 to 5 and 13, one test each: too small, too large, empty, full. */
final class TableBoundaryTest {
  private static final int MIN = Integer.MIN_VALUE;
  private static final int MAX = Integer.MAX_VALUE;

  public static void main(String[] args) {
    atMostCapacityRows();
    rowsAreOnlyAddedOrCleared();
    idsBeginAtZero();
    newRowsHaveNoResult();

    anyCapacityIsAccepted();
    capacityTooSmall();
    capacityTooLarge();
    capacityKept();
    newObjectHasNoRows();
    newObjectHasTheInitialSpecification();

    capacityIsClamped();
    capacityNeverChanges();

    rowCountFromEmptyToFull();
    rowCountGrowsOnlyWithAnAnswer();
    rowCountChangesNothing();

    addRowToAFullTable();
    addRowAnswersTheOldCount();
    addRowKeepsPart();
    addRowOrderKey();
    addRowValue();
    addRowIgnoresOtherBits();
    addRowDropsArgumentsOfNulls();
    addRowAcceptsAnyInt();
    addRowLeavesResultNull();
    addRowChangesNothingElse();

    clearRemovesRowsAndResults();
    clearBeginsIdsAgain();
    clearResetsLastFunc();
    clearKeepsTheRestOfTheSpecification();
    clearKeepsTheCapacity();
    clearOfAnEmptyTable();

    rowFieldOfEveryRow();
    rowFieldPart();
    rowFieldOrd();
    rowFieldVal();
    rowFieldMask();
    rowFieldOfOtherRows();
    rowFieldOfOtherFields();
    rowFieldChangesNothing();
    Check.finish();
  }

  // ---- What it is ----

  private static void atMostCapacityRows() {
    Check.sentence("The table holds at most `capacity()` rows.");
    for (int capacity = 8; capacity <= 32; capacity++) {
      WindowFrames w = new WindowFrames(capacity);
      for (int i = 0; i < 40; i++) {
        w.addRow(0, i, i, 0);
      }
      Check.due("rowCount() after 40 addRow", w.rowCount(), capacity);
      Check.due("rowAt(capacity)", w.rowAt(capacity), -1);
      Check.due("rowAt(capacity - 1)", w.rowAt(capacity - 1), capacity - 1);
    }
  }

  private static void rowsAreOnlyAddedOrCleared() {
    Check.sentence("Rows are only added, one per call, or all removed together by `clear`.");
    WindowFrames w = Fixture.busy();
    String rows = State.rows(w);
    w.setOrder(0, 0);
    w.setMode(1, 1);
    w.setStart(2, 0);
    w.setEnd(4, 0);
    for (int func = -1; func <= 12; func++) {
      w.compute(func, 1);
    }
    Check.same("setters and compute", State.rows(w), rows);
    w.addRow(9, 9, 9, 0);
    Check.same("addRow", State.rows(w), rows.replace("rows 5", "rows 6") + " (9 9 9 0)");
    w.clear();
    Check.same("clear", State.rows(w), "rows 0/8");
  }

  private static void idsBeginAtZero() {
    Check.sentence("Each row has an id (its insertion index, 0 first)");
    WindowFrames w = new WindowFrames(32);
    for (int i = 0; i < 32; i++) {
      Check.due("addRow number " + i, w.addRow(-i, -i, i, i), i);
    }
  }

  private static void newRowsHaveNoResult() {
    Check.sentence("A newly added row's stored result is NULL.");
    WindowFrames w = Fixture.full();
    w.compute(WindowFrames.FN_ROW_NUMBER, 0);
    w.clear();
    for (int row = 0; row < 8; row++) {
      w.addRow(1, row, 5, 0);
      Check.due("resultIsNull on the place of a cleared number", w.resultIsNull(row), true);
      Check.due("result on the place of a cleared number", w.result(row), 0);
    }
  }

  // ---- Promise 1 ----

  private static void anyCapacityIsAccepted() {
    Check.sentence("`new WindowFrames(capacity)` accepts any int.");
    int[] asked = {MIN, MIN + 1, -65536, -33, -32, -8, -1, 0, 1, 20, 255, 256, 65536, MAX - 1, MAX};
    for (int capacity : asked) {
      WindowFrames w = new WindowFrames(capacity);
      Check.due("new(" + capacity + "), addRow", w.addRow(1, 2, 3, 0), 0);
    }
  }

  private static void capacityTooSmall() {
    Check.sentence("a value below 8 becomes 8");
    int[] small = {7, 6, 1, 0, -1, -8, -9, -20, -32, -33, -256 + 20, MIN, MIN + 1, MIN + 20};
    for (int capacity : small) {
      holds(new WindowFrames(capacity), "new(" + capacity + ")", 8);
    }
  }

  private static void capacityTooLarge() {
    Check.sentence("a value above 32 becomes 32");
    int[] large = {33, 34, 40, 64, 127, 128, 256 + 8, 65536 + 16, MAX - 1, MAX};
    for (int capacity : large) {
      holds(new WindowFrames(capacity), "new(" + capacity + ")", 32);
    }
  }

  private static void capacityKept() {
    Check.sentence("a value in 8..32 is kept");
    for (int capacity = 8; capacity <= 32; capacity++) {
      holds(new WindowFrames(capacity), "new(" + capacity + ")", capacity);
    }
  }

  /** The capacity answered is also the one that is held to. */
  private static void holds(WindowFrames w, String call, int rows) {
    Check.due(call + ".capacity()", w.capacity(), rows);
    for (int i = 0; i < rows; i++) {
      Check.due(call + ", addRow number " + i, w.addRow(0, 0, 0, 0), i);
    }
    Check.due(call + ", addRow when full", w.addRow(0, 0, 0, 0), -1);
  }

  private static void newObjectHasNoRows() {
    Check.sentence("The new object has no rows");
    int[] asked = {MIN, 8, 20, 32, MAX};
    for (int capacity : asked) {
      WindowFrames w = new WindowFrames(capacity);
      Check.due("rowCount()", w.rowCount(), 0);
      for (int row = -1; row <= 32; row++) {
        Check.due("rowAt(" + row + ")", w.rowAt(row), -1);
        Check.due("resultIsNull(" + row + ")", w.resultIsNull(row), true);
      }
    }
  }

  private static void newObjectHasTheInitialSpecification() {
    Check.sentence("the specification holds its initial values: direction `ORDER_ASC`, nulls `NULLS_LAST`,"
        + " mode `MODE_RANGE`, exclude `EXCLUDE_NO_OTHERS`, start `BOUND_UNBOUNDED_PRECEDING` with offset 0,"
        + " end `BOUND_CURRENT_ROW` with offset 0, lastFunc -1.");
    WindowFrames other = Fixture.busy();
    int[] asked = {MIN, 8, 20, 32, MAX};
    for (int capacity : asked) {
      Check.same("new(" + capacity + ")", State.spec(new WindowFrames(capacity)), Fixture.NEW_SPEC);
    }
    Check.same("another object keeps its own", State.spec(other), Fixture.BUSY_SPEC);
  }

  // ---- Promise 2 ----

  private static void capacityIsClamped() {
    Check.sentence("`capacity()` answers the clamped capacity fixed at construction, always in 8..32.");
    for (int capacity = -40; capacity <= 80; capacity++) {
      Check.due("new(" + capacity + ").capacity()", new WindowFrames(capacity).capacity(),
          capacity < 8 ? 8 : capacity > 32 ? 32 : capacity);
    }
  }

  private static void capacityNeverChanges() {
    Check.sentence("It never changes over the life of the object, and the call changes nothing.");
    int[] asked = {MIN, 7, 8, 9, 31, 32, 33, MAX};
    int[] due = {8, 8, 8, 9, 31, 32, 32, 32};
    for (int i = 0; i < asked.length; i++) {
      WindowFrames w = new WindowFrames(asked[i]);
      for (int round = 0; round < 3; round++) {
        for (int row = 0; row < 34; row++) {
          w.addRow(row, row, row, row);
          Check.due("capacity() with " + w.rowCount() + " rows", w.capacity(), due[i]);
        }
        w.compute(WindowFrames.FN_SUM, 0);
        Check.due("capacity() after compute", w.capacity(), due[i]);
        w.clear();
        Check.due("capacity() after clear", w.capacity(), due[i]);
      }
    }
    Fixture.changesNothing("capacity()", w -> w.capacity());
  }

  // ---- Promise 3 ----

  private static void rowCountFromEmptyToFull() {
    Check.sentence("`rowCount()` answers the number of rows currently in the table, always in 0..`capacity()`.");
    for (int capacity = 8; capacity <= 32; capacity++) {
      WindowFrames w = new WindowFrames(capacity);
      for (int rows = 0; rows < 40; rows++) {
        Check.due("rowCount() after " + rows + " addRow", w.rowCount(), Math.min(rows, capacity));
        w.addRow(0, 0, 0, 0);
      }
    }
  }

  private static void rowCountGrowsOnlyWithAnAnswer() {
    Check.sentence("It is 0 after construction and after `clear`, and grows by one with each `addRow` that does"
        + " not answer -1.");
    WindowFrames w = new WindowFrames(8);
    for (int round = 0; round < 3; round++) {
      Check.due("rowCount() of an empty table", w.rowCount(), 0);
      int due = 0;
      for (int i = 0; i < 12; i++) {
        due += w.addRow(i, i, i, i) == -1 ? 0 : 1;
        Check.due("rowCount()", w.rowCount(), due);
      }
      Check.due("rows added", due, 8);
      w.clear();
    }
  }

  private static void rowCountChangesNothing() {
    Check.sentence("The call changes nothing.");
    Fixture.changesNothing("rowCount()", w -> w.rowCount());
  }

  // ---- Promise 4 ----

  private static void addRowToAFullTable() {
    Check.sentence("if `rowCount() == capacity()`, answers -1 and nothing changes.");
    WindowFrames w = Fixture.full();
    for (int mask = -5; mask <= 5; mask++) {
      int nullMask = mask;
      Check.unchanged("addRow to a full table", w,
          () -> Check.due("addRow to a full table", w.addRow(77, 78, 79, nullMask), -1));
    }
    for (int capacity = 8; capacity <= 32; capacity++) {
      WindowFrames other = new WindowFrames(capacity);
      for (int i = 0; i < capacity - 1; i++) {
        other.addRow(0, 0, 0, 0);
      }
      Check.due("addRow to the last place", other.addRow(1, 1, 1, 0), capacity - 1);
      Check.unchanged("addRow to " + capacity + " rows", other,
          () -> Check.due("addRow to a full table", other.addRow(2, 2, 2, 0), -1));
    }
  }

  private static void addRowAnswersTheOldCount() {
    Check.sentence("Otherwise it appends a row with id = `rowCount()` (the old count) and answers that new id;"
        + " `rowCount()` grows by one.");
    WindowFrames w = new WindowFrames(32);
    for (int i = 0; i < 32; i++) {
      int old = w.rowCount();
      Check.due("addRow", w.addRow(100 + i, 200 + i, 300 + i, 0), old);
      Check.due("rowCount()", w.rowCount(), old + 1);
      Check.due("the row with the new id", w.rowField(old, WindowFrames.FIELD_PART), 100 + i);
    }
  }

  private static void addRowKeepsPart() {
    Check.sentence("The new row has P = part;");
    for (int mask = 0; mask <= 3; mask++) {
      WindowFrames w = new WindowFrames(8);
      w.addRow(MIN, 1, 2, mask);
      w.addRow(MAX, 1, 2, mask);
      w.addRow(0, 1, 2, mask);
      Check.due("P", w.rowField(0, WindowFrames.FIELD_PART), MIN);
      Check.due("P", w.rowField(1, WindowFrames.FIELD_PART), MAX);
      Check.due("P", w.rowField(2, WindowFrames.FIELD_PART), 0);
    }
  }

  private static void addRowOrderKey() {
    Check.sentence("O = NULL if `(nullMask & NULL_ORD) != 0`, else ord;");
    WindowFrames w = new WindowFrames(8);
    w.addRow(0, 5, 6, WindowFrames.NULL_ORD);
    w.addRow(0, 5, 6, 0);
    w.addRow(0, 0, 6, 0);
    Check.same("only O is NULL", State.rows(w), "rows 3/8 (0 0 6 1) (0 5 6 0) (0 0 6 0)");
    Check.same("a NULL key sorts as NULL, not as 0", State.order(w), "order 2 1 0");
  }

  private static void addRowValue() {
    Check.sentence("V = NULL if `(nullMask & NULL_VAL) != 0`, else val.");
    WindowFrames w = new WindowFrames(8);
    w.addRow(0, 5, 6, WindowFrames.NULL_VAL);
    w.addRow(0, 5, 6, 0);
    w.addRow(0, 5, 0, 0);
    Check.same("only V is NULL", State.rows(w), "rows 3/8 (0 5 0 2) (0 5 6 0) (0 5 0 0)");
    w.compute(WindowFrames.FN_LAG, 0);
    Check.same("a NULL value is NULL, not 0", State.results(w), "results - 6 0");
  }

  private static void addRowIgnoresOtherBits() {
    Check.sentence("Only the bits `NULL_ORD` and `NULL_VAL` of nullMask are looked at and all other bits are"
        + " ignored, also when nullMask is negative (for example, -1 makes both O and V NULL, and -4 makes"
        + " neither NULL).");
    nullMask(-1, 3);
    nullMask(-4, 0);
    nullMask(-3, 1);
    nullMask(-2, 2);
    nullMask(MIN, 0);
    nullMask(MIN + 1, 1);
    nullMask(MIN + 2, 2);
    nullMask(MIN + 3, 3);
    nullMask(MAX, 3);
    nullMask(MAX - 3, 0);
    for (int bit = 2; bit < 32; bit++) {
      for (int low = 0; low <= 3; low++) {
        nullMask(1 << bit | low, low);
        nullMask(~(1 << bit) & ~3 | low, low);
      }
    }
  }

  private static void nullMask(int mask, int due) {
    WindowFrames w = new WindowFrames(8);
    w.addRow(5, 6, 7, mask);
    Check.same("addRow(5, 6, 7, " + mask + ")", State.rows(w), "rows 1/8 (5 "
        + ((due & 1) != 0 ? 0 : 6) + " " + ((due & 2) != 0 ? 0 : 7) + " " + due + ")");
  }

  private static void addRowDropsArgumentsOfNulls() {
    Check.sentence("When O or V is NULL the corresponding argument is not kept.");
    int[] given = {MIN, -1, 1, MAX};
    for (int number : given) {
      WindowFrames w = new WindowFrames(8);
      w.addRow(0, number, number, 3);
      w.addRow(0, -number, -number, 3);
      w.addRow(0, 0, 0, 0);
      Check.same("the arguments", State.rows(w), "rows 3/8 (0 0 0 3) (0 0 0 3) (0 0 0 0)");
      Check.same("the order", State.order(w), "order 2 0 1");
      w.compute(WindowFrames.FN_SUM, 0);
      Check.same("the sums", State.results(w), "results 0 0 0");
      w.compute(WindowFrames.FN_LAG, 0);
      Check.same("the values", State.results(w), "results - - 0");
    }
  }

  private static void addRowAcceptsAnyInt() {
    Check.sentence("Any int is accepted for part, ord and val.");
    int[] numbers = {MIN, MIN + 1, -1, 0, 1, MAX - 1, MAX};
    for (int part : numbers) {
      for (int ord : numbers) {
        for (int val : numbers) {
          WindowFrames w = new WindowFrames(8);
          Check.due("addRow", w.addRow(part, ord, val, 0), 0);
          Check.same("addRow", State.rows(w), "rows 1/8 (" + part + " " + ord + " " + val + " 0)");
        }
      }
    }
  }

  private static void addRowLeavesResultNull() {
    Check.sentence("The new row's stored result is NULL.");
    WindowFrames w = new WindowFrames(8);
    for (int row = 0; row < 8; row++) {
      w.addRow(0, 0, 7, 0);
      Check.due("resultIsNull", w.resultIsNull(row), true);
      Check.due("result", w.result(row), 0);
      w.compute(WindowFrames.FN_COUNT_STAR, 0);
      Check.due("resultIsNull after compute", w.resultIsNull(row), false);
    }
  }

  private static void addRowChangesNothingElse() {
    Check.sentence("The existing rows, their stored results and the specification (lastFunc included) do not"
        + " change.");
    WindowFrames w = Fixture.busy();
    String rows = State.rows(w);
    String results = State.results(w);
    Check.same("before", State.spec(w), Fixture.BUSY_SPEC);
    w.addRow(1, 5, 50, 0);
    Check.same("the rows", State.rows(w), rows.replace("rows 5", "rows 6") + " (1 5 50 0)");
    Check.same("the results", State.results(w), results + " -");
    Check.same("the specification", State.spec(w), Fixture.BUSY_SPEC);
  }

  // ---- Promise 5 ----

  private static void clearRemovesRowsAndResults() {
    Check.sentence("`clear()` removes all rows, and so all stored results;");
    WindowFrames w = Fixture.full();
    w.compute(WindowFrames.FN_ROW_NUMBER, 0);
    w.clear();
    for (int row = -1; row <= 32; row++) {
      Check.due("result(" + row + ")", w.result(row), 0);
      Check.due("resultIsNull(" + row + ")", w.resultIsNull(row), true);
      Check.due("rowAt(" + row + ")", w.rowAt(row), -1);
      for (int field = 0; field <= 3; field++) {
        Check.due("rowField(" + row + ", " + field + ")", w.rowField(row, field), 0);
      }
    }
    String[] due = {"1", "1", "1", "-", "-", "50", "50", "50", "1", "1", "50", "50"};
    for (int func = 0; func < due.length; func++) {
      Check.same("compute(" + func + ", 1) without the removed rows", oneRowAfterClear(func), "results " + due[func]);
    }
  }

  /** The removed rows stand all around the new one, in its partition and in the last frame that was looked at. */
  private static String oneRowAfterClear(int func) {
    WindowFrames w = new WindowFrames(32);
    w.setEnd(WindowFrames.BOUND_UNBOUNDED_FOLLOWING, 0);
    for (int i = 0; i < 32; i++) {
      w.addRow(0, i % 10, i * 10 - 100, 0);
    }
    w.compute(func, 1);
    w.clear();
    w.addRow(0, 5, 50, 0);
    w.compute(func, 1);
    return State.results(w);
  }

  private static void clearBeginsIdsAgain() {
    Check.sentence("`rowCount()` becomes 0 and the next added row gets id 0.");
    WindowFrames w = Fixture.full();
    w.clear();
    Check.due("rowCount()", w.rowCount(), 0);
    for (int i = 0; i < 8; i++) {
      Check.due("addRow", w.addRow(0, 0, 0, 0), i);
    }
    Check.due("addRow to the table filled again", w.addRow(0, 0, 0, 0), -1);
  }

  private static void clearResetsLastFunc() {
    Check.sentence("lastFunc becomes -1.");
    for (int func = 0; func <= 11; func++) {
      WindowFrames w = Fixture.busy();
      w.compute(func, 0);
      w.clear();
      Check.due("lastFunc", w.specField(WindowFrames.SPEC_LAST_FUNC), -1);
    }
  }

  private static void clearKeepsTheRestOfTheSpecification() {
    Check.sentence("The rest of the specification (direction, nulls, mode, exclude, both bounds with their"
        + " offsets) is kept.");
    WindowFrames w = Fixture.busy();
    w.clear();
    Check.same("clear", State.spec(w), "spec 2 1 0 3 1 4 3 5 -1");
    w.setStart(WindowFrames.BOUND_FOLLOWING, MAX);
    w.setEnd(WindowFrames.BOUND_PRECEDING, MAX);
    w.clear();
    Check.same("clear", State.spec(w), "spec 2 1 0 3 3 " + MAX + " 1 " + MAX + " -1");
  }

  private static void clearKeepsTheCapacity() {
    Check.sentence("The capacity does not change.");
    for (int capacity = 7; capacity <= 33; capacity++) {
      WindowFrames w = new WindowFrames(capacity);
      int due = w.capacity();
      w.addRow(0, 0, 0, 0);
      w.clear();
      holds(w, "clear of new(" + capacity + ")", due);
    }
  }

  private static void clearOfAnEmptyTable() {
    Check.sentence("Calling it on an empty table is allowed and has the same effect.");
    WindowFrames w = new WindowFrames(8);
    w.clear();
    Check.same("clear of a new object", State.of(w), Fixture.NEW_SPEC + " rows 0/8 results order");
    w.compute(WindowFrames.FN_MAX, 0);
    w.clear();
    Check.same("clear after compute over no rows", State.of(w), Fixture.NEW_SPEC + " rows 0/8 results order");
    w.clear();
    Check.same("clear once more", State.of(w), Fixture.NEW_SPEC + " rows 0/8 results order");
    Check.due("addRow after it", w.addRow(1, 2, 3, 0), 0);
  }

  // ---- Promise 13 ----

  private static void rowFieldOfEveryRow() {
    Check.sentence("`rowField(row, field)` for row in 0..`rowCount()`-1 answers:");
    WindowFrames w = new WindowFrames(32);
    for (int i = 0; i < 32; i++) {
      w.addRow(100 + i, 200 + i, 300 + i, 0);
    }
    for (int i = 0; i < 32; i++) {
      Check.due("rowField(" + i + ", PART)", w.rowField(i, WindowFrames.FIELD_PART), 100 + i);
      Check.due("rowField(" + i + ", ORD)", w.rowField(i, WindowFrames.FIELD_ORD), 200 + i);
      Check.due("rowField(" + i + ", VAL)", w.rowField(i, WindowFrames.FIELD_VAL), 300 + i);
    }
  }

  private static final int[] NUMBERS = {MIN, -1, 0, 1, MAX};

  private static void rowFieldPart() {
    Check.sentence("for `FIELD_PART`, P;");
    for (int number : NUMBERS) {
      for (int mask = 0; mask <= 3; mask++) {
        Check.due("P " + number, one(number, 5, 6, mask).rowField(0, WindowFrames.FIELD_PART), number);
      }
    }
  }

  private static void rowFieldOrd() {
    Check.sentence("for `FIELD_ORD`, O (0 if NULL);");
    for (int number : NUMBERS) {
      for (int mask = 0; mask <= 3; mask++) {
        Check.due("O " + number + ", mask " + mask, one(5, number, 6, mask).rowField(0, WindowFrames.FIELD_ORD),
            mask == 0 || mask == 2 ? number : 0);
      }
    }
  }

  private static void rowFieldVal() {
    Check.sentence("for `FIELD_VAL`, V (0 if NULL);");
    for (int number : NUMBERS) {
      for (int mask = 0; mask <= 3; mask++) {
        Check.due("V " + number + ", mask " + mask, one(5, 6, number, mask).rowField(0, WindowFrames.FIELD_VAL),
            mask == 0 || mask == 1 ? number : 0);
      }
    }
  }

  private static void rowFieldMask() {
    Check.sentence("for `FIELD_MASK`, `NULL_ORD` if O is NULL plus `NULL_VAL` if V is NULL (so 0, 1, 2 or 3).");
    for (int mask = 0; mask <= 3; mask++) {
      Check.due("mask " + mask, one(5, 6, 7, mask).rowField(0, WindowFrames.FIELD_MASK), mask);
      Check.due("mask " + mask + " of zeros", one(0, 0, 0, mask).rowField(0, WindowFrames.FIELD_MASK), mask);
      Check.due("mask " + (mask - 4), one(5, 6, 7, mask - 4).rowField(0, WindowFrames.FIELD_MASK), mask);
    }
  }

  private static WindowFrames one(int part, int ord, int val, int mask) {
    WindowFrames w = new WindowFrames(8);
    w.addRow(part, ord, val, mask);
    return w;
  }

  private static void rowFieldOfOtherRows() {
    Check.sentence("Any other row");
    WindowFrames empty = new WindowFrames(8);
    WindowFrames cleared = Fixture.full();
    cleared.clear();
    cleared.addRow(7, 7, 7, 0);
    WindowFrames full = Fixture.full();
    WindowFrames greatest = new WindowFrames(32);
    for (int i = 0; i < 32; i++) {
      greatest.addRow(9, 9, 9, 0);
    }
    for (int field = 0; field <= 3; field++) {
      for (int row = -40; row < 80; row++) {
        noRow(empty, row, field);
        if (row < 0 || row >= 1) {
          noRow(cleared, row, field);
        }
        if (row < 0 || row >= 8) {
          noRow(full, row, field);
        }
        if (row < 0 || row >= 32) {
          noRow(greatest, row, field);
        }
      }
      int[] far = {MIN, MIN + 1, -65536, -256, 256, 65536, MAX - 1, MAX};
      for (int row : far) {
        noRow(empty, row, field);
        noRow(cleared, row, field);
        noRow(full, row, field);
        noRow(greatest, row, field);
      }
    }
  }

  private static void noRow(WindowFrames w, int row, int field) {
    Check.due("rowField(" + row + ", " + field + ") of " + w.rowCount() + " rows", w.rowField(row, field), 0);
  }

  private static void rowFieldOfOtherFields() {
    Check.sentence("or any other field answers 0.");
    int[] wrong = {MIN, MIN + 1, -65536, -4, -3, -2, -1, 4, 5, 6, 7, 8, 256, 257, 65536, MAX - 1, MAX};
    for (int mask = 0; mask <= 3; mask++) {
      WindowFrames w = one(5, 6, 7, mask);
      for (int field : wrong) {
        Check.due("rowField(0, " + field + ")", w.rowField(0, field), 0);
        Check.due("rowField(1, " + field + ")", w.rowField(1, field), 0);
        Check.due("rowField(-1, " + field + ")", w.rowField(-1, field), 0);
      }
    }
  }

  private static void rowFieldChangesNothing() {
    Check.sentence("The call changes nothing.");
    int[] numbers = {MIN, -1, 0, 1, 2, 3, 4, 5, 7, 8, 32, MAX};
    for (int row : numbers) {
      for (int field : numbers) {
        Fixture.changesNothing("rowField(" + row + ", " + field + ")", w -> w.rowField(row, field));
      }
    }
  }
}

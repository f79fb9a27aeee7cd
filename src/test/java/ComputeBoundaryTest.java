/**
 * The sentences on the functions and of promise 10, one test each: what is refused and what it leaves, empty
 * tables and frames, NULLs, and sums and positions beyond int.
 */
final class ComputeBoundaryTest {
  private static final int MIN = Integer.MIN_VALUE;
  private static final int MAX = Integer.MAX_VALUE;

  private static final int ROWS = WindowFrames.MODE_ROWS;
  private static final int RANGE = WindowFrames.MODE_RANGE;
  private static final int FROM_FIRST = WindowFrames.BOUND_UNBOUNDED_PRECEDING;
  private static final int PRECEDING = WindowFrames.BOUND_PRECEDING;
  private static final int CURRENT = WindowFrames.BOUND_CURRENT_ROW;
  private static final int FOLLOWING = WindowFrames.BOUND_FOLLOWING;
  private static final int TO_LAST = WindowFrames.BOUND_UNBOUNDED_FOLLOWING;

  private static final int NONE = WindowFrames.ORDER_NONE;
  private static final int ASC = WindowFrames.ORDER_ASC;
  private static final int DESC = WindowFrames.ORDER_DESC;
  private static final int LAST = WindowFrames.NULLS_LAST;
  private static final int FIRST = WindowFrames.NULLS_FIRST;

  private static final int LAG = WindowFrames.FN_LAG;
  private static final int LEAD = WindowFrames.FN_LEAD;
  private static final int SUM = WindowFrames.FN_SUM;
  private static final int COUNT = WindowFrames.FN_COUNT;
  private static final int COUNT_STAR = WindowFrames.FN_COUNT_STAR;
  private static final int NULL_VAL = WindowFrames.NULL_VAL;

  public static void main(String[] args) {
    nullIsNoNumber();
    rowNumber();
    rank();
    denseRank();
    lag();
    lagWithoutRowOrValue();
    lead();
    fiveIgnoreTheFrame();
    firstValue();
    firstValueNull();
    lastValue();
    lastValueNull();
    sum();
    sumNull();
    count();
    countStar();
    minAndMax();
    minAndMaxNull();

    refusedCallChangesNothing();
    funcOutside();
    negativeArg();
    rangeOffsetsWithoutOrder();
    everyRowGetsItsResult();
    argIsForLagAndLead();
    tableAndSpecificationInForce();
    lastFuncIsSet();
    noRows();
    argZero();
    argOutsideThePartition();
    rangeBoundsAreExact();
    sumIsExact();
    emptyFrame();
    neverNull();
    rowsAndSpecificationStay();
    Check.finish();
  }

  private static void due(WindowFrames w, int func, int arg, String results) {
    String call = "compute(" + func + ", " + arg + ") under " + State.spec(w);
    Check.due(call, w.compute(func, arg), true);
    Check.same(call, State.results(w), ("results " + results).trim());
  }

  /** One partition of rows in the order of their ids, each its own frame's last row. */
  private static WindowFrames values(int... values) {
    WindowFrames w = new WindowFrames(32);
    for (int i = 0; i < values.length; i++) {
      w.addRow(0, i, values[i], 0);
    }
    return w;
  }

  private static void addNull(WindowFrames w) {
    w.addRow(0, w.rowCount(), 99, NULL_VAL);
  }

  private static void bounds(WindowFrames w, int start, int from, int end, int to) {
    Check.due("setStart", w.setStart(start, from), true);
    Check.due("setEnd", w.setEnd(end, to), true);
  }

  // ---- Functions ----

  private static void nullIsNoNumber() {
    Check.sentence("NULL is a result distinct from every number.");
    int[] numbers = {0, -1, 1, MIN, MAX};
    for (int number : numbers) {
      WindowFrames w = values(number);
      addNull(w);
      due(w, LAG, 0, number + " -");
    }
  }

  private static void rowNumber() {
    Check.sentence("`FN_ROW_NUMBER`: pos(r) + 1.");
    WindowFrames w = Fixture.thirtyTwo();
    w.compute(WindowFrames.FN_ROW_NUMBER, 0);
    for (int row = 0; row < 32; row++) {
      Check.due("row number " + row, w.result(row), row + 1);
    }
    w.setOrder(DESC, LAST);
    w.compute(WindowFrames.FN_ROW_NUMBER, 0);
    for (int row = 0; row < 32; row++) {
      Check.due("row number " + row + " descending", w.result(row), 32 - row);
    }
    due(Fixture.keys(5, 5, 5), WindowFrames.FN_ROW_NUMBER, 0, "1 2 3");
  }

  private static void rank() {
    Check.sentence("`FN_RANK`: 1 + the number of rows of r's partition that are KEY-BEFORE r.");
    WindowFrames w = Fixture.keys(2, 1, 2, MAX, MIN, 1);
    Fixture.addNullKey(w);
    Fixture.addNullKey(w);
    w.addRow(-1, MIN, 0, 0);
    due(w, WindowFrames.FN_RANK, 0, "4 2 4 6 1 2 7 7 1");
    w.setOrder(DESC, FIRST);
    due(w, WindowFrames.FN_RANK, 0, "4 6 4 3 8 6 1 1 1");
    WindowFrames full = Fixture.thirtyTwo();
    full.compute(WindowFrames.FN_RANK, 0);
    Check.due("the greatest rank", full.result(31), 32);
  }

  private static void denseRank() {
    Check.sentence("`FN_DENSE_RANK`: 1 + the number of distinct peer groups of r's partition whose rows are"
        + " KEY-BEFORE r.");
    WindowFrames w = Fixture.keys(2, 1, 2, MAX, MIN, 1);
    Fixture.addNullKey(w);
    Fixture.addNullKey(w);
    w.addRow(-1, MIN, 0, 0);
    due(w, WindowFrames.FN_DENSE_RANK, 0, "3 2 3 4 1 2 5 5 1");
    w.setOrder(DESC, FIRST);
    due(w, WindowFrames.FN_DENSE_RANK, 0, "3 4 3 2 5 4 1 1 1");
    WindowFrames full = Fixture.thirtyTwo();
    full.compute(WindowFrames.FN_DENSE_RANK, 0);
    Check.due("the greatest rank", full.result(31), 32);
  }

  /** Partition 1 between two others, so that a step out of it would meet a row. */
  private static WindowFrames threePartitions() {
    WindowFrames w = new WindowFrames(8);
    w.addRow(0, 1, 100, 0);
    w.addRow(1, 1, 10, 0);
    w.addRow(1, 2, 99, NULL_VAL);
    w.addRow(1, 3, 30, 0);
    w.addRow(2, 1, 200, 0);
    return w;
  }

  private static void lag() {
    Check.sentence("`FN_LAG` (arg a): V(s) for the row s of r's partition with pos(s) = pos(r) - a;");
    due(threePartitions(), LAG, 2, "- - - 10 -");
    WindowFrames w = Fixture.thirtyTwo();
    for (int back = 0; back < 32; back++) {
      w.compute(LAG, back);
      Check.due("LAG " + back + " of the last row", w.result(31), 31 - back);
      Check.due("LAG " + back + " reaches the first row", w.result(back), 0);
      Check.due("LAG " + back + " reaches the first row", w.resultIsNull(back), false);
    }
    w.setOrder(DESC, LAST);
    w.compute(LAG, 31);
    Check.due("LAG 31 descending", w.result(0), 31);
  }

  private static void lagWithoutRowOrValue() {
    Check.sentence("NULL if there is no such row or V(s) is NULL.");
    due(threePartitions(), LAG, 1, "- - 10 - -");
    due(threePartitions(), LAG, 3, "- - - - -");
    WindowFrames w = Fixture.thirtyTwo();
    for (int back = 1; back < 32; back++) {
      w.compute(LAG, back);
      Check.due("LAG " + back + " one row before the first", w.resultIsNull(back - 1), true);
    }
  }

  private static void lead() {
    Check.sentence("`FN_LEAD` (arg a): the same with pos(s) = pos(r) + a.");
    due(threePartitions(), LEAD, 1, "- - 30 - -");
    due(threePartitions(), LEAD, 2, "- 30 - - -");
    due(threePartitions(), LEAD, 3, "- - - - -");
    WindowFrames w = Fixture.thirtyTwo();
    for (int ahead = 0; ahead < 32; ahead++) {
      w.compute(LEAD, ahead);
      Check.due("LEAD " + ahead + " of the first row", w.result(0), ahead);
      Check.due("LEAD " + ahead + " reaches the last row", w.result(31 - ahead), 31);
      if (ahead > 0) {
        Check.due("LEAD " + ahead + " one row after the last", w.resultIsNull(32 - ahead), true);
      }
    }
  }

  private static void fiveIgnoreTheFrame() {
    Check.sentence("These five ignore mode, bounds and exclude.");
    for (int way = 0; way < 2 * 4 * 4 * 4; way++) {
      WindowFrames w = threePartitions();
      w.addRow(1, 3, 40, 0);
      w.setMode(way % 2, way / 2 % 4);
      bounds(w, way / 8 % 4, 1, 1 + way / 32, 0);
      due(w, WindowFrames.FN_ROW_NUMBER, 0, "1 1 2 3 1 4");
      due(w, WindowFrames.FN_RANK, 0, "1 1 2 3 1 3");
      due(w, WindowFrames.FN_DENSE_RANK, 0, "1 1 2 3 1 3");
      due(w, LAG, 1, "- - 10 - - 30");
      due(w, LEAD, 1, "- - 30 40 - -");
    }
  }

  private static void firstValue() {
    Check.sentence("`FN_FIRST_VALUE`: V of the row of F that comes first in sort order;");
    WindowFrames w = new WindowFrames(8);
    w.addRow(0, 2, 20, 0);
    w.addRow(0, 3, 30, 0);
    w.addRow(0, 1, 10, 0);
    w.addRow(0, 1, 11, 0);
    bounds(w, FROM_FIRST, 0, TO_LAST, 0);
    due(w, WindowFrames.FN_FIRST_VALUE, 0, "10 10 10 10");
    w.setOrder(DESC, LAST);
    due(w, WindowFrames.FN_FIRST_VALUE, 0, "30 30 30 30");
    w.setOrder(NONE, LAST);
    due(w, WindowFrames.FN_FIRST_VALUE, 0, "20 20 20 20");
    w.setOrder(ASC, LAST);
    w.setMode(RANGE, WindowFrames.EXCLUDE_CURRENT_ROW);
    due(w, WindowFrames.FN_FIRST_VALUE, 0, "10 10 11 10");
  }

  private static void firstValueNull() {
    Check.sentence("V of the row of F that comes first in sort order; NULL if F is empty or that V is NULL.");
    WindowFrames w = new WindowFrames(8);
    addNull(w);
    w.addRow(0, 1, 10, 0);
    due(w, WindowFrames.FN_FIRST_VALUE, 0, "- -");
    w.setMode(ROWS, 0);
    bounds(w, FOLLOWING, 1, TO_LAST, 0);
    due(w, WindowFrames.FN_FIRST_VALUE, 0, "10 -");
  }

  private static void lastValue() {
    Check.sentence("`FN_LAST_VALUE`: V of the row of F that comes last in sort order;");
    WindowFrames w = new WindowFrames(8);
    w.addRow(0, 2, 20, 0);
    w.addRow(0, 3, 30, 0);
    w.addRow(0, 1, 10, 0);
    w.addRow(0, 1, 11, 0);
    bounds(w, FROM_FIRST, 0, TO_LAST, 0);
    due(w, WindowFrames.FN_LAST_VALUE, 0, "30 30 30 30");
    w.setOrder(DESC, LAST);
    due(w, WindowFrames.FN_LAST_VALUE, 0, "11 11 11 11");
    w.setOrder(NONE, LAST);
    due(w, WindowFrames.FN_LAST_VALUE, 0, "11 11 11 11");
    w.setOrder(DESC, LAST);
    w.setMode(RANGE, WindowFrames.EXCLUDE_CURRENT_ROW);
    due(w, WindowFrames.FN_LAST_VALUE, 0, "11 11 11 10");
  }

  private static void lastValueNull() {
    Check.sentence("V of the row of F that comes last in sort order; NULL if F is empty or that V is NULL.");
    WindowFrames w = values(10);
    addNull(w);
    due(w, WindowFrames.FN_LAST_VALUE, 0, "10 -");
    bounds(w, FROM_FIRST, 0, TO_LAST, 0);
    due(w, WindowFrames.FN_LAST_VALUE, 0, "- -");
    w.setMode(ROWS, 0);
    bounds(w, FROM_FIRST, 0, PRECEDING, 1);
    due(w, WindowFrames.FN_LAST_VALUE, 0, "- 10");
  }

  private static void sum() {
    Check.sentence("`FN_SUM`: the exact sum of the non-NULL V of F (it fits in a long);");
    due(values(MAX, MAX, MAX), SUM, 0, "2147483647 4294967294 6442450941");
    due(values(MIN, MIN, MIN), SUM, 0, "-2147483648 -4294967296 -6442450944");
    due(values(MAX, 1, MIN, MIN, MAX, 1), SUM, 0, "2147483647 2147483648 0 -2147483648 -1 0");
    WindowFrames w = values(MAX);
    addNull(w);
    w.addRow(0, 2, MAX, 0);
    due(w, SUM, 0, "2147483647 2147483647 4294967294");
  }

  private static void sumNull() {
    Check.sentence("(it fits in a long); NULL if F holds no non-NULL V.");
    WindowFrames w = new WindowFrames(8);
    addNull(w);
    addNull(w);
    w.addRow(0, 2, 0, 0);
    w.addRow(0, 3, 5, 0);
    w.addRow(0, 4, -5, 0);
    due(w, SUM, 0, "- - 0 5 0");
    w.setMode(ROWS, 0);
    bounds(w, FOLLOWING, 1, FOLLOWING, 1);
    due(w, SUM, 0, "- 0 5 -5 -");
  }

  private static void count() {
    Check.sentence("`FN_COUNT`: the number of rows of F whose V is not NULL (never NULL; 0 for an empty or all-NULL"
        + " frame).");
    WindowFrames w = new WindowFrames(8);
    addNull(w);
    addNull(w);
    w.addRow(0, 2, 0, 0);
    due(w, COUNT, 0, "0 0 1");
    bounds(w, FOLLOWING, 1, TO_LAST, 0);
    due(w, COUNT, 0, "1 1 0");
    WindowFrames full = Fixture.thirtyTwo();
    full.compute(COUNT, 0);
    Check.due("a full table", full.result(31), 32);
  }

  private static void countStar() {
    Check.sentence("`FN_COUNT_STAR`: the number of rows of F (never NULL; 0 for an empty frame).");
    WindowFrames w = new WindowFrames(8);
    addNull(w);
    addNull(w);
    w.addRow(0, 2, 0, 0);
    due(w, COUNT_STAR, 0, "1 2 3");
    bounds(w, FOLLOWING, 1, TO_LAST, 0);
    due(w, COUNT_STAR, 0, "2 1 0");
    WindowFrames full = Fixture.thirtyTwo();
    full.compute(COUNT_STAR, 0);
    Check.due("a full table", full.result(31), 32);
  }

  private static void minAndMax() {
    Check.sentence("`FN_MIN`, `FN_MAX`: the least, the greatest non-NULL V of F;");
    WindowFrames w = values(0, MAX, MIN, 1, -1);
    due(w, WindowFrames.FN_MIN, 0, "0 0 " + MIN + " " + MIN + " " + MIN);
    due(w, WindowFrames.FN_MAX, 0, "0 " + MAX + " " + MAX + " " + MAX + " " + MAX);
    bounds(w, CURRENT, 0, CURRENT, 0);
    due(w, WindowFrames.FN_MIN, 0, "0 " + MAX + " " + MIN + " 1 -1");
    due(w, WindowFrames.FN_MAX, 0, "0 " + MAX + " " + MIN + " 1 -1");
    WindowFrames positive = values(7);
    addNull(positive);
    due(positive, WindowFrames.FN_MIN, 0, "7 7");
    WindowFrames negative = values(-7);
    addNull(negative);
    due(negative, WindowFrames.FN_MAX, 0, "-7 -7");
  }

  private static void minAndMaxNull() {
    Check.sentence("the greatest non-NULL V of F; NULL if F holds no non-NULL V.");
    WindowFrames w = new WindowFrames(8);
    addNull(w);
    addNull(w);
    w.addRow(0, 2, 0, 0);
    due(w, WindowFrames.FN_MIN, 0, "- - 0");
    due(w, WindowFrames.FN_MAX, 0, "- - 0");
    bounds(w, FOLLOWING, 1, TO_LAST, 0);
    due(w, WindowFrames.FN_MIN, 0, "0 0 -");
    due(w, WindowFrames.FN_MAX, 0, "0 0 -");
  }

  // ---- Promise 10 ----

  private static void refused(WindowFrames w, int func, int arg) {
    Check.refused("compute(" + func + ", " + arg + ") under " + State.spec(w), w, () -> w.compute(func, arg));
  }

  /** Computed with results of both kinds, then set so that range offsets stand without an order. */
  private static WindowFrames withoutOrder(int start, int end) {
    WindowFrames w = Fixture.full();
    w.setOrder(NONE, LAST);
    w.setMode(RANGE, WindowFrames.EXCLUDE_NO_OTHERS);
    bounds(w, start, 0, end, 0);
    return w;
  }

  private static void refusedCallChangesNothing() {
    Check.sentence("a refused call answers false and changes nothing (no stored result, no part of the specification,"
        + " lastFunc included):");
    refused(Fixture.full(), 12, 0);
    refused(Fixture.full(), LEAD, -1);
    refused(withoutOrder(PRECEDING, FOLLOWING), COUNT, 0);
    refused(withoutOrder(PRECEDING, FOLLOWING), LAG, -1);
    refused(withoutOrder(PRECEDING, FOLLOWING), -1, -1);
    WindowFrames late = Fixture.busy();
    late.addRow(1, 1, 1, 0);
    refused(late, 12, 0);
    Check.due("a row added before the refused call holds NULL", late.resultIsNull(5), true);
    WindowFrames fresh = new WindowFrames(8);
    refused(fresh, 12, 0);
    refused(fresh, LAG, -1);
    Check.due("lastFunc of a new object", fresh.specField(WindowFrames.SPEC_LAST_FUNC), -1);
  }

  private static void funcOutside() {
    Check.sentence("func is not in 0..11;");
    int[] outside = {MIN, MIN + 1, -65536, -256, -2, -1, 12, 13, 14, 15, 16, 255, 256, 257, 65536, 1 << 24,
        MAX - 1, MAX};
    int[] args = {MIN, -1, 0, 1, MAX};
    for (int func : outside) {
      for (int arg : args) {
        refused(Fixture.full(), func, arg);
        refused(Fixture.busy(), func, arg);
      }
    }
    for (int func = 0; func <= 11; func++) {
      Check.due("compute(" + func + ", 0)", Fixture.full().compute(func, 0), true);
    }
  }

  private static void negativeArg() {
    Check.sentence("func is `FN_LAG` or `FN_LEAD` and arg < 0;");
    int[] negative = {-1, -2, -8, -32, -65536, MIN + 1, MIN};
    for (int arg : negative) {
      refused(Fixture.full(), LAG, arg);
      refused(Fixture.full(), LEAD, arg);
      for (int func = 0; func <= 11; func++) {
        if (func != LAG && func != LEAD) {
          Check.due("compute(" + func + ", " + arg + ")", Fixture.full().compute(func, arg), true);
        }
      }
    }
    int[] taken = {0, 1, MAX};
    for (int arg : taken) {
      Check.due("LAG " + arg, Fixture.full().compute(LAG, arg), true);
      Check.due("LEAD " + arg, Fixture.full().compute(LEAD, arg), true);
    }
  }

  private static void rangeOffsetsWithoutOrder() {
    Check.sentence("mode is `MODE_RANGE`, direction is `ORDER_NONE`, and the start kind or the end kind is"
        + " `BOUND_PRECEDING` or `BOUND_FOLLOWING` (whatever func).");
    for (int start = 0; start <= 3; start++) {
      for (int end = 1; end <= 4; end++) {
        boolean offsets = start == PRECEDING || start == FOLLOWING || end == PRECEDING || end == FOLLOWING;
        for (int func = 0; func <= 11; func++) {
          WindowFrames w = withoutOrder(start, end);
          if (offsets) {
            refused(w, func, 0);
          } else {
            Check.due("compute(" + func + ") without offsets", w.compute(func, 0), true);
          }
          w.setMode(ROWS, 0);
          Check.due("compute(" + func + ") over rows", w.compute(func, 0), true);
          for (int direction = ASC; direction <= DESC; direction++) {
            w.setMode(RANGE, 0);
            w.setOrder(direction, LAST);
            Check.due("compute(" + func + ") with an order", w.compute(func, 0), true);
          }
        }
      }
    }
  }

  private static void everyRowGetsItsResult() {
    Check.sentence("Otherwise, for every row r (ids 0..`rowCount()`-1), it sets r's stored result to the result of"
        + " func for r, as defined under Functions");
    for (int capacity = 8; capacity <= 32; capacity += 8) {
      for (int rows = 1; rows <= capacity; rows++) {
        WindowFrames w = new WindowFrames(capacity);
        for (int i = 0; i < rows; i++) {
          w.addRow(i, 0, 5, 0);
        }
        w.compute(LAG, 1);
        for (int row = 0; row < rows; row++) {
          Check.due("resultIsNull(" + row + ") of " + rows, w.resultIsNull(row), true);
        }
        w.compute(COUNT_STAR, 0);
        for (int row = 0; row < rows; row++) {
          Check.due("result(" + row + ") of " + rows, w.result(row), 1);
          Check.due("resultIsNull(" + row + ") of " + rows, w.resultIsNull(row), false);
        }
        w.compute(LEAD, 1);
        for (int row = 0; row < rows; row++) {
          Check.due("resultIsNull(" + row + ") of " + rows, w.resultIsNull(row), true);
          Check.due("result(" + row + ") of " + rows, w.result(row), 0);
        }
      }
    }
    fullTable(WindowFrames.FN_ROW_NUMBER, 1, 32);
    fullTable(WindowFrames.FN_RANK, 1, 32);
    fullTable(WindowFrames.FN_DENSE_RANK, 1, 32);
    fullTable(LAG, 0, 31);
    fullTable(LEAD, 0, 31);
    fullTable(WindowFrames.FN_FIRST_VALUE, 0, 0);
    fullTable(WindowFrames.FN_LAST_VALUE, 0, 31);
    fullTable(SUM, 0, 496);
    fullTable(COUNT, 1, 32);
    fullTable(COUNT_STAR, 1, 32);
    fullTable(WindowFrames.FN_MIN, 0, 0);
    fullTable(WindowFrames.FN_MAX, 0, 31);
  }

  private static void fullTable(int func, long first, long last) {
    WindowFrames w = Fixture.thirtyTwo();
    Check.due("compute(" + func + ", 0) of 32 rows", w.compute(func, 0), true);
    Check.due("compute(" + func + ", 0), the first of 32 rows", w.result(0), first);
    Check.due("compute(" + func + ", 0), the last of 32 rows", w.result(31), last);
  }

  private static void argIsForLagAndLead() {
    Check.sentence("(arg is ignored for every other func)");
    int[] args = {MIN, -1, 1, 7, MAX};
    for (int func = 0; func <= 11; func++) {
      WindowFrames plain = Fixture.full();
      plain.compute(func, 0);
      for (int arg : args) {
        if (func != LAG && func != LEAD) {
          due(Fixture.full(), func, arg, State.results(plain).substring("results ".length()));
        }
      }
    }
  }

  private static void tableAndSpecificationInForce() {
    Check.sentence("under the table and specification in force at this call.");
    WindowFrames w = values(1, 2, 4);
    due(w, SUM, 0, "1 3 7");
    w.addRow(0, -1, 8, 0);
    due(w, SUM, 0, "9 11 15 8");
    w.setOrder(DESC, LAST);
    due(w, SUM, 0, "7 6 4 15");
    w.setMode(RANGE, WindowFrames.EXCLUDE_CURRENT_ROW);
    due(w, SUM, 0, "6 4 - 7");
    w.setMode(RANGE, WindowFrames.EXCLUDE_NO_OTHERS);
    w.setStart(PRECEDING, 1);
    due(w, SUM, 0, "3 6 4 9");
    w.setEnd(TO_LAST, 0);
    due(w, SUM, 0, "11 15 15 9");
    w.clear();
    w.addRow(0, 0, 16, 0);
    due(w, SUM, 0, "16");
  }

  private static void lastFuncIsSet() {
    Check.sentence("It then sets lastFunc = func and answers true.");
    WindowFrames w = Fixture.full();
    for (int func = 11; func >= 0; func--) {
      Check.due("compute(" + func + ", 0)", w.compute(func, 0), true);
      Check.due("lastFunc", w.specField(WindowFrames.SPEC_LAST_FUNC), func);
    }
  }

  private static void noRows() {
    Check.sentence("It also answers true, and sets lastFunc, when there are no rows.");
    WindowFrames cleared = Fixture.full();
    for (int func = 0; func <= 11; func++) {
      WindowFrames w = new WindowFrames(8);
      due(w, func, 0, "");
      Check.due("lastFunc", w.specField(WindowFrames.SPEC_LAST_FUNC), func);
      cleared.clear();
      due(cleared, func, MAX, "");
      Check.due("lastFunc after clear", cleared.specField(WindowFrames.SPEC_LAST_FUNC), func);
    }
    refused(cleared, 12, 0);
    refused(cleared, LAG, -1);
    cleared.setOrder(NONE, LAST);
    cleared.setMode(RANGE, 0);
    refused(cleared, COUNT, 0);
  }

  private static void argZero() {
    Check.sentence("arg 0 for `FN_LAG` or `FN_LEAD` gives V(r) itself (NULL if V(r) is NULL).");
    for (int direction = NONE; direction <= DESC; direction++) {
      WindowFrames w = threePartitions();
      w.addRow(1, 3, MIN, 0);
      w.addRow(1, 3, 0, WindowFrames.NULL_ORD);
      w.setOrder(direction, FIRST);
      due(w, LAG, 0, "100 10 - 30 200 " + MIN + " 0");
      due(w, LEAD, 0, "100 10 - 30 200 " + MIN + " 0");
    }
  }

  private static void argOutsideThePartition() {
    Check.sentence("Any arg that reaches outside r's partition, up to `Integer.MAX_VALUE`, gives NULL, with positions"
        + " computed exactly.");
    WindowFrames w = Fixture.thirtyTwo();
    int[] far = {32, 33, 64, 256, 65536, MAX - 32, MAX - 31, MAX - 30, MAX - 1, MAX};
    for (int arg : far) {
      w.compute(WindowFrames.FN_ROW_NUMBER, 0);
      Check.due("LAG " + arg, w.compute(LAG, arg), true);
      allNull(w, "LAG " + arg);
      w.compute(WindowFrames.FN_ROW_NUMBER, 0);
      Check.due("LEAD " + arg, w.compute(LEAD, arg), true);
      allNull(w, "LEAD " + arg);
    }
    due(threePartitions(), LAG, 1, "- - 10 - -");
    due(threePartitions(), LEAD, 1, "- - 30 - -");
    due(threePartitions(), LAG, MAX, "- - - - -");
    due(threePartitions(), LEAD, MAX, "- - - - -");
  }

  private static void allNull(WindowFrames w, String call) {
    for (int row = 0; row < w.rowCount(); row++) {
      Check.due(call + ", resultIsNull(" + row + ")", w.resultIsNull(row), true);
      Check.due(call + ", result(" + row + ")", w.result(row), 0);
    }
  }

  private static void rangeBoundsAreExact() {
    Check.sentence("Range bounds are computed exactly even at the extremes of int.");
    for (int direction = ASC; direction <= DESC; direction++) {
      boolean up = direction == ASC;
      WindowFrames w = Fixture.keys(MIN, MIN + 1, MAX - 1, MAX);
      w.setOrder(direction, LAST);
      bounds(w, PRECEDING, 1, CURRENT, 0);
      due(w, COUNT_STAR, 0, up ? "1 2 1 2" : "2 1 2 1");
      bounds(w, CURRENT, 0, FOLLOWING, 1);
      due(w, COUNT_STAR, 0, up ? "2 1 2 1" : "1 2 1 2");
      bounds(w, FOLLOWING, 1, TO_LAST, 0);
      due(w, COUNT_STAR, 0, up ? "3 2 1 0" : "0 1 2 3");
      bounds(w, FROM_FIRST, 0, PRECEDING, 1);
      due(w, COUNT_STAR, 0, up ? "0 1 2 3" : "3 2 1 0");
      bounds(w, PRECEDING, MAX, FOLLOWING, MAX);
      due(w, COUNT_STAR, 0, "2 2 2 2");
      bounds(w, PRECEDING, MAX, PRECEDING, MAX);
      due(w, COUNT_STAR, 0, "0 0 0 0");
    }
  }

  private static void sumIsExact() {
    Check.sentence("`FN_SUM` is exact.");
    int[] extremes = {MIN, MIN + 1, -1, 0, 1, MAX - 1, MAX};
    for (int value : extremes) {
      WindowFrames w = new WindowFrames(32);
      for (int i = 0; i < 32; i++) {
        w.addRow(0, i, value, 0);
      }
      w.compute(SUM, 0);
      for (int row = 0; row < 32; row++) {
        Check.due("sum of " + (row + 1) + " times " + value, w.result(row), (row + 1L) * value);
        Check.due("resultIsNull", w.resultIsNull(row), false);
      }
    }
  }

  private static void emptyFrame() {
    Check.sentence("An empty frame gives NULL for `FN_FIRST_VALUE`, `FN_LAST_VALUE`, `FN_SUM`, `FN_MIN` and `FN_MAX`,"
        + " and 0 for `FN_COUNT` and `FN_COUNT_STAR`.");
    for (int mode = ROWS; mode <= RANGE; mode++) {
      WindowFrames w = values(5, -5, MIN, MAX);
      w.setMode(mode, 0);
      bounds(w, FOLLOWING, 2, FOLLOWING, 1);
      emptyFrames(w);
      bounds(w, FOLLOWING, MAX, PRECEDING, MAX);
      emptyFrames(w);
      bounds(w, CURRENT, 0, CURRENT, 0);
      w.setMode(mode, WindowFrames.EXCLUDE_CURRENT_ROW);
      emptyFrames(w);
      w.setMode(mode, WindowFrames.EXCLUDE_GROUP);
      emptyFrames(w);
    }
  }

  private static void emptyFrames(WindowFrames w) {
    int[] nullable = {WindowFrames.FN_FIRST_VALUE, WindowFrames.FN_LAST_VALUE, SUM, WindowFrames.FN_MIN,
        WindowFrames.FN_MAX};
    for (int func : nullable) {
      due(w, WindowFrames.FN_ROW_NUMBER, 0, "1 2 3 4");
      due(w, func, 0, "- - - -");
    }
    due(w, COUNT, 0, "0 0 0 0");
    due(w, SUM, 0, "- - - -");
    due(w, COUNT_STAR, 0, "0 0 0 0");
  }

  private static void neverNull() {
    Check.sentence("`FN_ROW_NUMBER`, `FN_RANK`, `FN_DENSE_RANK`, `FN_COUNT` and `FN_COUNT_STAR` never give NULL.");
    int[] funcs = {WindowFrames.FN_ROW_NUMBER, WindowFrames.FN_RANK, WindowFrames.FN_DENSE_RANK, COUNT, COUNT_STAR};
    for (int way = 0; way < 2 * 4 * 4 * 4; way++) {
      WindowFrames w = new WindowFrames(8);
      for (int i = 0; i < 8; i++) {
        w.addRow(i / 6, i % 3, i, i < 4 ? 3 : NULL_VAL);
      }
      w.setMode(way % 2, way / 2 % 4);
      bounds(w, way / 8 % 4, 1, 1 + way / 32, 2);
      for (int func : funcs) {
        w.compute(LAG, MAX);
        w.compute(func, -1);
        for (int row = 0; row < 8; row++) {
          Check.due("compute(" + func + "), resultIsNull(" + row + ")", w.resultIsNull(row), false);
        }
      }
    }
  }

  private static void rowsAndSpecificationStay() {
    Check.sentence("The rows and the other parts of the specification do not change.");
    WindowFrames w = Fixture.full();
    String before = State.rows(w) + State.order(w);
    for (int func = 0; func <= 11; func++) {
      w.compute(func, 1);
      Check.same("rows and order", State.rows(w) + State.order(w), before);
      Check.same("specification", State.spec(w), "spec 2 1 0 3 1 4 3 5 " + func);
    }
  }
}

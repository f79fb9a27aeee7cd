/** Promise 10: compute, with every function and every kind of frame, worked out by hand. */
final class ComputeTest {
  private static final int MIN = Integer.MIN_VALUE;
  private static final int MAX = Integer.MAX_VALUE;

  private static final int ROWS = WindowFrames.MODE_ROWS;
  private static final int RANGE = WindowFrames.MODE_RANGE;
  private static final int FROM_FIRST = WindowFrames.BOUND_UNBOUNDED_PRECEDING;
  private static final int PRECEDING = WindowFrames.BOUND_PRECEDING;
  private static final int CURRENT = WindowFrames.BOUND_CURRENT_ROW;
  private static final int FOLLOWING = WindowFrames.BOUND_FOLLOWING;
  private static final int TO_LAST = WindowFrames.BOUND_UNBOUNDED_FOLLOWING;

  private static final int NONE = WindowFrames.ORDER_NONE;
  private static final int ASC = WindowFrames.ORDER_ASC;
  private static final int DESC = WindowFrames.ORDER_DESC;
  private static final int LAST = WindowFrames.NULLS_LAST;
  private static final int FIRST = WindowFrames.NULLS_FIRST;

  private static final int SUM = WindowFrames.FN_SUM;
  private static final int COUNT = WindowFrames.FN_COUNT;
  private static final int COUNT_STAR = WindowFrames.FN_COUNT_STAR;

  public static void main(String[] args) {
    everyFunctionUnderTheInitialSpecification();
    everyFunctionDescendingNullsFirst();
    everyFunctionWithoutOrder();
    lagAndLead();
    fiveFunctionsIgnoreTheFrame();
    rowsFrames();
    rowsFramesAtTheExtremes();
    rangeFramesAscending();
    rangeFramesDescending();
    rangeFramesAndNullKeys();
    rangeFramesAtTheExtremes();
    excludedRows();
    emptyFrames();
    framesWithoutValues();
    sumsBeyondInt();
    leastAndGreatestAtTheExtremes();
    partitionsAreApart();
    wrongFunctions();
    wrongArguments();
    offsetsOverNoOrder();
    anEmptyTable();
    onlyResultsAndLastFuncChange();
    Check.finish();
  }

  /** Six rows of partition 1 with a pair of peers, a NULL value and a NULL key; one row of partition 0. */
  private static WindowFrames table() {
    WindowFrames w = new WindowFrames(16);
    w.addRow(1, 1, 10, 0);
    w.addRow(1, 3, 20, 0);
    w.addRow(1, 3, 5, 0);
    w.addRow(1, 4, 99, WindowFrames.NULL_VAL);
    w.addRow(1, 7, 40, 0);
    w.addRow(1, 99, 15, WindowFrames.NULL_ORD);
    w.addRow(0, 2, 7, 0);
    return w;
  }

  private static WindowFrames table(int direction, int nulls, int mode) {
    WindowFrames w = table();
    w.setOrder(direction, nulls);
    w.setMode(mode, WindowFrames.EXCLUDE_NO_OTHERS);
    return w;
  }

  private static void frame(WindowFrames w, int startKind, int startOffset, int endKind, int endOffset) {
    Check.due("setStart", w.setStart(startKind, startOffset), true);
    Check.due("setEnd", w.setEnd(endKind, endOffset), true);
  }

  private static void due(WindowFrames w, int func, int arg, String results) {
    String call = "compute(" + func + ", " + arg + ") under " + State.spec(w);
    Check.due(call, w.compute(func, arg), true);
    Check.same(call, State.results(w), ("results " + results).trim());
    Check.due("lastFunc", w.specField(WindowFrames.SPEC_LAST_FUNC), func);
  }

  private static void everyFunctionUnderTheInitialSpecification() {
    WindowFrames w = table();
    due(w, WindowFrames.FN_ROW_NUMBER, 0, "1 2 3 4 5 6 1");
    due(w, WindowFrames.FN_RANK, 0, "1 2 2 4 5 6 1");
    due(w, WindowFrames.FN_DENSE_RANK, 0, "1 2 2 3 4 5 1");
    due(w, WindowFrames.FN_LAG, 1, "- 10 20 5 - 40 -");
    due(w, WindowFrames.FN_LEAD, 1, "20 5 - 40 15 - -");
    due(w, WindowFrames.FN_FIRST_VALUE, 0, "10 10 10 10 10 10 7");
    due(w, WindowFrames.FN_LAST_VALUE, 0, "10 5 5 - 40 15 7");
    due(w, SUM, 0, "10 35 35 35 75 90 7");
    due(w, COUNT, 0, "1 3 3 3 4 5 1");
    due(w, COUNT_STAR, 0, "1 3 3 4 5 6 1");
    due(w, WindowFrames.FN_MIN, 0, "10 5 5 5 5 5 7");
    due(w, WindowFrames.FN_MAX, 0, "10 20 20 20 40 40 7");
  }

  private static void everyFunctionDescendingNullsFirst() {
    WindowFrames w = table(DESC, FIRST, RANGE);
    due(w, WindowFrames.FN_ROW_NUMBER, 0, "6 4 5 3 2 1 1");
    due(w, WindowFrames.FN_RANK, 0, "6 4 4 3 2 1 1");
    due(w, WindowFrames.FN_DENSE_RANK, 0, "5 4 4 3 2 1 1");
    due(w, WindowFrames.FN_LAG, 1, "5 - 20 40 15 - -");
    due(w, WindowFrames.FN_LEAD, 1, "- 5 10 20 - 40 -");
    due(w, WindowFrames.FN_FIRST_VALUE, 0, "15 15 15 15 15 15 7");
    due(w, WindowFrames.FN_LAST_VALUE, 0, "10 5 5 - 40 15 7");
    due(w, SUM, 0, "90 80 80 55 55 15 7");
    due(w, COUNT, 0, "5 4 4 2 2 1 1");
    due(w, COUNT_STAR, 0, "6 5 5 3 2 1 1");
    due(w, WindowFrames.FN_MIN, 0, "5 5 5 15 15 15 7");
    due(w, WindowFrames.FN_MAX, 0, "40 40 40 40 40 15 7");
  }

  private static void everyFunctionWithoutOrder() {
    WindowFrames w = table(NONE, FIRST, RANGE);
    due(w, WindowFrames.FN_ROW_NUMBER, 0, "1 2 3 4 5 6 1");
    due(w, WindowFrames.FN_RANK, 0, "1 1 1 1 1 1 1");
    due(w, WindowFrames.FN_DENSE_RANK, 0, "1 1 1 1 1 1 1");
    due(w, WindowFrames.FN_LAG, 1, "- 10 20 5 - 40 -");
    due(w, WindowFrames.FN_LAST_VALUE, 0, "15 15 15 15 15 15 7");
    due(w, SUM, 0, "90 90 90 90 90 90 7");
    frame(w, CURRENT, 0, CURRENT, 0);
    due(w, COUNT_STAR, 0, "6 6 6 6 6 6 1");
    w.setMode(ROWS, 0);
    frame(w, FROM_FIRST, 0, CURRENT, 0);
    due(w, SUM, 0, "10 30 35 35 75 90 7");
    frame(w, PRECEDING, 1, FOLLOWING, 1);
    due(w, SUM, 0, "30 35 25 45 55 55 7");
  }

  private static void lagAndLead() {
    WindowFrames w = table();
    due(w, WindowFrames.FN_LAG, 0, "10 20 5 - 40 15 7");
    due(w, WindowFrames.FN_LEAD, 0, "10 20 5 - 40 15 7");
    due(w, WindowFrames.FN_LAG, 2, "- - 10 20 5 - -");
    due(w, WindowFrames.FN_LEAD, 2, "5 - 40 15 - - -");
    due(w, WindowFrames.FN_LAG, 5, "- - - - - 10 -");
    due(w, WindowFrames.FN_LEAD, 5, "15 - - - - - -");
    due(w, WindowFrames.FN_LAG, 6, "- - - - - - -");
    due(w, WindowFrames.FN_LEAD, 6, "- - - - - - -");
    for (int back = 0; back < 8; back++) {
      due(w, WindowFrames.FN_LAG, MAX - back, "- - - - - - -");
      due(w, WindowFrames.FN_LEAD, MAX - back, "- - - - - - -");
    }
  }

  private static void fiveFunctionsIgnoreTheFrame() {
    for (int mode = 0; mode <= 1; mode++) {
      for (int exclude = 0; exclude <= 3; exclude++) {
        WindowFrames w = table();
        w.setMode(mode, exclude);
        frame(w, FOLLOWING, 2, FOLLOWING, 1);
        due(w, WindowFrames.FN_ROW_NUMBER, 0, "1 2 3 4 5 6 1");
        due(w, WindowFrames.FN_RANK, 0, "1 2 2 4 5 6 1");
        due(w, WindowFrames.FN_DENSE_RANK, 0, "1 2 2 3 4 5 1");
        due(w, WindowFrames.FN_LAG, 1, "- 10 20 5 - 40 -");
        due(w, WindowFrames.FN_LEAD, 1, "20 5 - 40 15 - -");
      }
    }
  }

  private static void rowsFrames() {
    WindowFrames w = table(ASC, LAST, ROWS);
    due(w, SUM, 0, "10 30 35 35 75 90 7");
    frame(w, PRECEDING, 1, FOLLOWING, 1);
    due(w, SUM, 0, "30 35 25 45 55 55 7");
    due(w, COUNT, 0, "2 3 2 2 2 2 1");
    due(w, COUNT_STAR, 0, "2 3 3 3 3 2 1");
    due(w, WindowFrames.FN_FIRST_VALUE, 0, "10 10 20 5 - 40 7");
    due(w, WindowFrames.FN_LAST_VALUE, 0, "20 5 - 40 15 15 7");
    due(w, WindowFrames.FN_MIN, 0, "10 5 5 5 15 15 7");
    due(w, WindowFrames.FN_MAX, 0, "20 20 20 40 40 40 7");
    frame(w, PRECEDING, 2, PRECEDING, 1);
    due(w, SUM, 0, "- 10 30 25 5 40 -");
    due(w, COUNT, 0, "0 1 2 2 1 1 0");
    due(w, COUNT_STAR, 0, "0 1 2 2 2 2 0");
    frame(w, FOLLOWING, 1, FOLLOWING, 2);
    due(w, SUM, 0, "25 5 40 55 15 - -");
    frame(w, CURRENT, 0, TO_LAST, 0);
    due(w, SUM, 0, "90 80 60 55 55 15 7");
    frame(w, CURRENT, 0, CURRENT, 0);
    due(w, SUM, 0, "10 20 5 - 40 15 7");
    frame(w, PRECEDING, 0, FOLLOWING, 0);
    due(w, SUM, 0, "10 20 5 - 40 15 7");
    frame(w, FROM_FIRST, 0, TO_LAST, 0);
    due(w, SUM, 0, "90 90 90 90 90 90 7");
    frame(w, FROM_FIRST, 0, PRECEDING, 1);
    due(w, SUM, 0, "- 10 30 35 35 75 -");
    frame(w, FOLLOWING, 1, TO_LAST, 0);
    due(w, SUM, 0, "80 60 55 55 15 - -");
    w.setOrder(DESC, FIRST);
    frame(w, PRECEDING, 1, CURRENT, 0);
    due(w, SUM, 0, "15 20 25 40 55 15 7");
  }

  private static void rowsFramesAtTheExtremes() {
    WindowFrames w = table(ASC, LAST, ROWS);
    frame(w, PRECEDING, MAX, FOLLOWING, MAX);
    due(w, SUM, 0, "90 90 90 90 90 90 7");
    frame(w, FOLLOWING, MAX, TO_LAST, 0);
    due(w, COUNT_STAR, 0, "0 0 0 0 0 0 0");
    frame(w, FROM_FIRST, 0, PRECEDING, MAX);
    due(w, COUNT_STAR, 0, "0 0 0 0 0 0 0");
    frame(w, PRECEDING, MAX, CURRENT, 0);
    due(w, COUNT_STAR, 0, "1 2 3 4 5 6 1");
    frame(w, CURRENT, 0, FOLLOWING, MAX);
    due(w, COUNT_STAR, 0, "6 5 4 3 2 1 1");
    frame(w, FROM_FIRST, 0, FOLLOWING, MAX - 2);
    due(w, COUNT_STAR, 0, "6 6 6 6 6 6 1");
    frame(w, FOLLOWING, MAX - 2, FOLLOWING, MAX);
    due(w, COUNT_STAR, 0, "0 0 0 0 0 0 0");
  }

  private static void rangeFramesAscending() {
    WindowFrames w = table(ASC, LAST, RANGE);
    frame(w, PRECEDING, 2, FOLLOWING, 1);
    due(w, SUM, 0, "10 35 35 25 40 15 7");
    frame(w, PRECEDING, 3, PRECEDING, 1);
    due(w, SUM, 0, "- 10 10 35 - 15 -");
    due(w, COUNT, 0, "0 1 1 3 0 1 0");
    due(w, COUNT_STAR, 0, "0 1 1 3 1 1 0");
    frame(w, FOLLOWING, 1, FOLLOWING, 3);
    due(w, SUM, 0, "25 - - 40 - 15 -");
    frame(w, CURRENT, 0, CURRENT, 0);
    due(w, SUM, 0, "10 25 25 - 40 15 7");
    frame(w, PRECEDING, 0, FOLLOWING, 0);
    due(w, SUM, 0, "10 25 25 - 40 15 7");
    frame(w, CURRENT, 0, TO_LAST, 0);
    due(w, SUM, 0, "90 80 80 55 55 15 7");
    frame(w, CURRENT, 0, FOLLOWING, 3);
    due(w, SUM, 0, "35 25 25 40 40 15 7");
    frame(w, PRECEDING, 3, CURRENT, 0);
    due(w, SUM, 0, "10 35 35 35 40 15 7");
    frame(w, FROM_FIRST, 0, TO_LAST, 0);
    due(w, SUM, 0, "90 90 90 90 90 90 7");
  }

  private static void rangeFramesDescending() {
    WindowFrames w = table(DESC, LAST, RANGE);
    frame(w, PRECEDING, 2, FOLLOWING, 1);
    due(w, SUM, 0, "35 25 25 25 40 15 7");
    frame(w, PRECEDING, 3, PRECEDING, 1);
    due(w, SUM, 0, "25 - - 40 - 15 -");
    frame(w, FOLLOWING, 1, FOLLOWING, 3);
    due(w, SUM, 0, "- 10 10 35 - 15 -");
    frame(w, CURRENT, 0, CURRENT, 0);
    due(w, SUM, 0, "10 25 25 - 40 15 7");
    frame(w, CURRENT, 0, TO_LAST, 0);
    due(w, SUM, 0, "25 50 50 50 90 15 7");
    frame(w, CURRENT, 0, FOLLOWING, 1);
    due(w, WindowFrames.FN_FIRST_VALUE, 0, "10 20 20 - 40 15 7");
    due(w, WindowFrames.FN_LAST_VALUE, 0, "10 5 5 5 40 15 7");
  }

  private static void rangeFramesAndNullKeys() {
    WindowFrames w = table(ASC, FIRST, RANGE);
    frame(w, FROM_FIRST, 0, CURRENT, 0);
    due(w, SUM, 0, "25 50 50 50 90 15 7");
    frame(w, FROM_FIRST, 0, FOLLOWING, 0);
    due(w, SUM, 0, "10 35 35 35 75 15 7");
    frame(w, FROM_FIRST, 0, PRECEDING, 1);
    due(w, SUM, 0, "- 10 10 35 35 15 -");
    frame(w, PRECEDING, 0, TO_LAST, 0);
    due(w, SUM, 0, "75 65 65 40 40 90 7");
    frame(w, FOLLOWING, 1, TO_LAST, 0);
    due(w, SUM, 0, "65 40 40 40 - 90 -");
    w.setOrder(ASC, LAST);
    frame(w, PRECEDING, 0, TO_LAST, 0);
    due(w, SUM, 0, "75 65 65 40 40 15 7");
    frame(w, FROM_FIRST, 0, FOLLOWING, 0);
    due(w, SUM, 0, "10 35 35 35 75 90 7");

    WindowFrames two = new WindowFrames(8);
    two.addRow(0, 0, 1, 0);
    two.addRow(0, 0, 2, WindowFrames.NULL_ORD);
    two.addRow(0, 5, 4, WindowFrames.NULL_ORD);
    frame(two, PRECEDING, 0, FOLLOWING, 0);
    due(two, SUM, 0, "1 6 6");
    due(two, WindowFrames.FN_RANK, 0, "1 2 2");
    due(two, WindowFrames.FN_DENSE_RANK, 0, "1 2 2");
  }

  private static void rangeFramesAtTheExtremes() {
    for (int direction = ASC; direction <= DESC; direction++) {
      WindowFrames w = new WindowFrames(8);
      w.setOrder(direction, LAST);
      w.addRow(0, MIN, 1, 0);
      w.addRow(0, -1, 2, 0);
      w.addRow(0, 0, 4, 0);
      w.addRow(0, MAX, 8, 0);
      w.addRow(0, 0, 16, WindowFrames.NULL_ORD);
      boolean up = direction == ASC;
      frame(w, PRECEDING, MAX, FOLLOWING, MAX);
      due(w, SUM, 0, "3 7 14 12 16");
      frame(w, PRECEDING, MAX, CURRENT, 0);
      due(w, SUM, 0, up ? "1 3 6 12 16" : "3 6 12 8 16");
      frame(w, CURRENT, 0, FOLLOWING, MAX);
      due(w, SUM, 0, up ? "3 6 12 8 16" : "1 3 6 12 16");
      frame(w, FOLLOWING, MAX, TO_LAST, 0);
      due(w, SUM, 0, up ? "14 8 8 - 16" : "- 1 1 7 16");
      frame(w, FROM_FIRST, 0, PRECEDING, MAX);
      due(w, SUM, 0, up ? "- 1 1 7 31" : "14 8 8 - 31");
      frame(w, FOLLOWING, MAX, FOLLOWING, MAX);
      due(w, SUM, 0, up ? "2 - 8 - 16" : "- 1 - 4 16");
      frame(w, PRECEDING, MAX, PRECEDING, MAX);
      due(w, SUM, 0, up ? "- 1 - 4 16" : "2 - 8 - 16");
    }
  }

  private static void excludedRows() {
    WindowFrames w = table(ASC, LAST, ROWS);
    frame(w, PRECEDING, 1, FOLLOWING, 1);
    w.setMode(ROWS, WindowFrames.EXCLUDE_CURRENT_ROW);
    due(w, SUM, 0, "20 15 20 45 15 40 -");
    w.setMode(ROWS, WindowFrames.EXCLUDE_GROUP);
    due(w, SUM, 0, "20 10 - 45 15 40 -");
    w.setMode(ROWS, WindowFrames.EXCLUDE_TIES);
    due(w, SUM, 0, "30 30 5 45 55 55 7");
    frame(w, FROM_FIRST, 0, CURRENT, 0);
    w.setMode(RANGE, WindowFrames.EXCLUDE_CURRENT_ROW);
    due(w, SUM, 0, "- 15 30 35 35 75 -");
    due(w, WindowFrames.FN_LAST_VALUE, 0, "- 5 20 5 - 40 -");
    w.setMode(RANGE, WindowFrames.EXCLUDE_GROUP);
    due(w, SUM, 0, "- 10 10 35 35 75 -");
    due(w, COUNT_STAR, 0, "0 1 1 3 4 5 0");
    w.setMode(RANGE, WindowFrames.EXCLUDE_TIES);
    due(w, SUM, 0, "10 30 15 35 75 90 7");
    w.setOrder(NONE, LAST);
    due(w, SUM, 0, "10 20 5 - 40 15 7");
    w.setMode(RANGE, WindowFrames.EXCLUDE_GROUP);
    due(w, COUNT_STAR, 0, "0 0 0 0 0 0 0");
    w.setMode(ROWS, WindowFrames.EXCLUDE_TIES);
    frame(w, PRECEDING, 1, PRECEDING, 1);
    due(w, COUNT_STAR, 0, "0 0 0 0 0 0 0");
    w.setMode(ROWS, WindowFrames.EXCLUDE_CURRENT_ROW);
    due(w, COUNT_STAR, 0, "0 1 1 1 1 1 0");
  }

  private static void emptyFrames() {
    WindowFrames w = table(ASC, LAST, ROWS);
    frame(w, FOLLOWING, 2, FOLLOWING, 1);
    int[] nullable = {WindowFrames.FN_FIRST_VALUE, WindowFrames.FN_LAST_VALUE, SUM, WindowFrames.FN_MIN,
        WindowFrames.FN_MAX};
    for (int func : nullable) {
      w.compute(WindowFrames.FN_ROW_NUMBER, 0);
      due(w, func, 0, "- - - - - - -");
    }
    due(w, COUNT, 0, "0 0 0 0 0 0 0");
    due(w, COUNT_STAR, 0, "0 0 0 0 0 0 0");
    frame(w, PRECEDING, 1, PRECEDING, 2);
    due(w, COUNT_STAR, 0, "0 0 0 0 0 0 0");
    frame(w, CURRENT, 0, PRECEDING, 1);
    due(w, COUNT_STAR, 0, "0 0 0 0 0 0 0");
    w.setMode(RANGE, 0);
    due(w, COUNT_STAR, 0, "0 0 0 0 0 1 0");
  }

  private static void framesWithoutValues() {
    WindowFrames w = new WindowFrames(8);
    w.addRow(3, 1, 50, WindowFrames.NULL_VAL);
    w.addRow(3, 2, 60, WindowFrames.NULL_VAL);
    w.addRow(3, 3, 0, 0);
    due(w, SUM, 0, "- - 0");
    due(w, COUNT, 0, "0 0 1");
    due(w, COUNT_STAR, 0, "1 2 3");
    due(w, WindowFrames.FN_MIN, 0, "- - 0");
    due(w, WindowFrames.FN_MAX, 0, "- - 0");
    due(w, WindowFrames.FN_FIRST_VALUE, 0, "- - -");
    due(w, WindowFrames.FN_LAST_VALUE, 0, "- - 0");
    due(w, WindowFrames.FN_LEAD, 1, "- 0 -");
  }

  private static void sumsBeyondInt() {
    WindowFrames high = new WindowFrames(32);
    WindowFrames low = new WindowFrames(32);
    for (int i = 0; i < 32; i++) {
      high.addRow(0, 0, MAX, 0);
      low.addRow(0, 0, MIN, 0);
    }
    high.compute(SUM, 0);
    low.compute(SUM, 0);
    for (int row = 0; row < 32; row++) {
      Check.due("sum of 32 greatest", high.result(row), 68719476704L);
      Check.due("sum of 32 least", low.result(row), -68719476736L);
    }
  }

  private static void leastAndGreatestAtTheExtremes() {
    WindowFrames w = new WindowFrames(8);
    w.addRow(0, 1, MAX, 0);
    w.addRow(0, 2, MIN, 0);
    w.addRow(0, 3, 0, WindowFrames.NULL_VAL);
    frame(w, FROM_FIRST, 0, TO_LAST, 0);
    due(w, WindowFrames.FN_MIN, 0, MIN + " " + MIN + " " + MIN);
    due(w, WindowFrames.FN_MAX, 0, MAX + " " + MAX + " " + MAX);
    due(w, SUM, 0, "-1 -1 -1");
    frame(w, CURRENT, 0, CURRENT, 0);
    due(w, WindowFrames.FN_MIN, 0, MAX + " " + MIN + " -");
    due(w, WindowFrames.FN_MAX, 0, MAX + " " + MIN + " -");
  }

  private static void partitionsAreApart() {
    WindowFrames w = new WindowFrames(8);
    w.addRow(MAX, 1, 1, 0);
    w.addRow(MIN, 1, 2, 0);
    w.addRow(MAX, 1, 4, 0);
    w.addRow(MIN, 2, 8, 0);
    w.addRow(0, 1, 16, 0);
    due(w, WindowFrames.FN_ROW_NUMBER, 0, "1 1 2 2 1");
    due(w, WindowFrames.FN_RANK, 0, "1 1 1 2 1");
    due(w, WindowFrames.FN_DENSE_RANK, 0, "1 1 1 2 1");
    due(w, WindowFrames.FN_LAG, 1, "- - 1 2 -");
    due(w, WindowFrames.FN_LEAD, 1, "4 8 - - -");
    due(w, SUM, 0, "5 2 5 10 16");
    frame(w, FROM_FIRST, 0, TO_LAST, 0);
    due(w, SUM, 0, "5 10 5 10 16");
    w.setMode(RANGE, WindowFrames.EXCLUDE_GROUP);
    due(w, SUM, 0, "- 8 - 2 -");
    w.setMode(ROWS, WindowFrames.EXCLUDE_CURRENT_ROW);
    due(w, SUM, 0, "4 8 1 2 -");
  }

  private static void refused(WindowFrames w, int func, int arg) {
    String before = State.of(w);
    String call = "compute(" + func + ", " + arg + ") under " + State.spec(w);
    Check.due(call, w.compute(func, arg), false);
    Check.same(call + " changes nothing", State.of(w), before);
  }

  private static void wrongFunctions() {
    WindowFrames w = table();
    w.compute(WindowFrames.FN_LAG, 1);
    int[] wrong = {MIN, -2, -1, 12, 13, 16, 255, MAX};
    for (int func : wrong) {
      refused(w, func, 0);
      refused(w, func, -1);
      refused(w, func, 1);
    }
  }

  private static void wrongArguments() {
    int[] negative = {-1, -2, -7, MIN, MIN + 1};
    for (int arg : negative) {
      WindowFrames w = table();
      w.compute(COUNT_STAR, 0);
      refused(w, WindowFrames.FN_LAG, arg);
      refused(w, WindowFrames.FN_LEAD, arg);
      due(w, WindowFrames.FN_ROW_NUMBER, arg, "1 2 3 4 5 6 1");
      due(w, WindowFrames.FN_RANK, arg, "1 2 2 4 5 6 1");
      due(w, WindowFrames.FN_DENSE_RANK, arg, "1 2 2 3 4 5 1");
      due(w, WindowFrames.FN_FIRST_VALUE, arg, "10 10 10 10 10 10 7");
      due(w, WindowFrames.FN_LAST_VALUE, arg, "10 5 5 - 40 15 7");
      due(w, SUM, arg, "10 35 35 35 75 90 7");
      due(w, COUNT, arg, "1 3 3 3 4 5 1");
      due(w, COUNT_STAR, arg, "1 3 3 4 5 6 1");
      due(w, WindowFrames.FN_MIN, arg, "10 5 5 5 5 5 7");
      due(w, WindowFrames.FN_MAX, arg, "10 20 20 20 40 40 7");
    }
  }

  private static void offsetsOverNoOrder() {
    for (int start = 0; start <= 3; start++) {
      for (int end = 1; end <= 4; end++) {
        for (int func = 0; func <= 11; func++) {
          WindowFrames w = table();
          w.compute(WindowFrames.FN_LEAD, 1);
          w.setOrder(NONE, LAST);
          frame(w, start, 0, end, 0);
          boolean counts = start == PRECEDING || start == FOLLOWING || end == PRECEDING || end == FOLLOWING;
          if (counts) {
            refused(w, func, 0);
          } else {
            Check.due("compute(" + func + ") without offsets", w.compute(func, 0), true);
          }
          w.setMode(ROWS, 0);
          Check.due("compute(" + func + ") over rows", w.compute(func, 0), true);
          w.setMode(RANGE, 0);
          w.setOrder(DESC, LAST);
          Check.due("compute(" + func + ") with an order", w.compute(func, 0), true);
        }
      }
    }
  }

  private static void anEmptyTable() {
    WindowFrames w = new WindowFrames(8);
    for (int func = 0; func <= 11; func++) {
      due(w, func, 0, "");
    }
    refused(w, 12, 0);
    refused(w, WindowFrames.FN_LAG, -1);
    w.setOrder(NONE, LAST);
    w.setStart(PRECEDING, 0);
    refused(w, COUNT, 0);
  }

  private static void onlyResultsAndLastFuncChange() {
    WindowFrames w = table(DESC, FIRST, ROWS);
    w.setMode(ROWS, WindowFrames.EXCLUDE_TIES);
    frame(w, PRECEDING, 4, FOLLOWING, 5);
    String before = State.rows(w) + State.order(w);
    for (int func = 0; func <= 11; func++) {
      w.compute(func, 1);
      Check.same("compute(" + func + ")", State.rows(w) + State.order(w), before);
      Check.same("compute(" + func + ")", State.spec(w), "spec 2 1 0 3 1 4 3 5 " + func);
    }
  }
}

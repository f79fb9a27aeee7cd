/** Promises 6 to 9 and 14: the setters and specField. */
final class SpecificationTest {
  private static final int MIN = Integer.MIN_VALUE;
  private static final int MAX = Integer.MAX_VALUE;
  private static final int[] ODD = {MIN, MIN + 1, -2, -1, 0, 1, 2, 3, 4, 5, 6, 7, 256, MAX - 1, MAX};

  public static void main(String[] args) {
    promise6SetOrder();
    promise6OrderIsUsedByLaterCalls();
    promise6NoOrderWithAnyModeAndBounds();
    promise7SetMode();
    promise7RangeWithAnyDirectionAndBounds();
    promise8SetStart();
    promise9SetEnd();
    promise8And9OffsetIsDroppedWithItsKind();
    promise8And9BoundsAreApart();
    promise14SpecField();
    Check.finish();
  }

  private static void promise6SetOrder() {
    for (int direction : ODD) {
      for (int nulls : ODD) {
        WindowFrames w = prepared();
        String rest = State.rows(w) + State.results(w);
        boolean taken = direction >= 0 && direction <= 2 && (nulls == 0 || nulls == 1);
        String call = "setOrder(" + direction + ", " + nulls + ")";
        Check.due(call, w.setOrder(direction, nulls), taken);
        Check.same(call, State.spec(w), taken
            ? "spec " + direction + " " + nulls + " 0 3 1 4 3 5 7"
            : "spec 2 1 0 3 1 4 3 5 7");
        Check.same(call + " leaves rows and results", State.rows(w) + State.results(w), rest);
      }
    }
  }

  private static void promise6OrderIsUsedByLaterCalls() {
    WindowFrames w = new WindowFrames(8);
    w.addRow(1, 5, 1, 0);
    w.addRow(1, 9, 2, 0);
    w.addRow(1, 0, 3, 1);
    w.compute(WindowFrames.FN_RANK, 0);
    Check.same("ASC NULLS LAST", State.results(w) + State.order(w), "results 1 2 3order 0 1 2");
    w.setOrder(WindowFrames.ORDER_DESC, WindowFrames.NULLS_FIRST);
    Check.same("results wait for compute, order does not",
        State.results(w) + State.order(w), "results 1 2 3order 2 1 0");
    w.compute(WindowFrames.FN_RANK, 0);
    Check.same("DESC NULLS FIRST", State.results(w), "results 3 2 1");
    w.setOrder(WindowFrames.ORDER_NONE, WindowFrames.NULLS_FIRST);
    w.compute(WindowFrames.FN_RANK, 0);
    Check.same("no order", State.results(w) + State.order(w), "results 1 1 1order 0 1 2");
  }

  private static void promise6NoOrderWithAnyModeAndBounds() {
    for (int mode = 0; mode <= 1; mode++) {
      for (int start = 0; start <= 3; start++) {
        for (int end = 1; end <= 4; end++) {
          WindowFrames w = new WindowFrames(8);
          w.setMode(mode, 0);
          w.setStart(start, 1);
          w.setEnd(end, 1);
          Check.due("setOrder(ORDER_NONE)", w.setOrder(WindowFrames.ORDER_NONE, 0), true);
          Check.due("direction", w.specField(WindowFrames.SPEC_DIRECTION), WindowFrames.ORDER_NONE);
        }
      }
    }
  }

  private static void promise7SetMode() {
    for (int mode : ODD) {
      for (int exclude : ODD) {
        WindowFrames w = prepared();
        String rest = State.rows(w) + State.results(w) + State.order(w);
        boolean taken = (mode == 0 || mode == 1) && exclude >= 0 && exclude <= 3;
        String call = "setMode(" + mode + ", " + exclude + ")";
        Check.due(call, w.setMode(mode, exclude), taken);
        Check.same(call, State.spec(w), taken
            ? "spec 2 1 " + mode + " " + exclude + " 1 4 3 5 7"
            : "spec 2 1 0 3 1 4 3 5 7");
        Check.same(call + " leaves the rest", State.rows(w) + State.results(w) + State.order(w), rest);
      }
    }
  }

  private static void promise7RangeWithAnyDirectionAndBounds() {
    for (int direction = 0; direction <= 2; direction++) {
      for (int start = 0; start <= 3; start++) {
        for (int end = 1; end <= 4; end++) {
          WindowFrames w = new WindowFrames(8);
          w.setMode(WindowFrames.MODE_ROWS, 0);
          w.setOrder(direction, 0);
          w.setStart(start, 1);
          w.setEnd(end, 1);
          Check.due("setMode(MODE_RANGE)", w.setMode(WindowFrames.MODE_RANGE, 2), true);
          Check.due("mode", w.specField(WindowFrames.SPEC_MODE), WindowFrames.MODE_RANGE);
          Check.due("exclude", w.specField(WindowFrames.SPEC_EXCLUDE), 2);
        }
      }
    }
  }

  private static void promise8SetStart() {
    for (int kind : ODD) {
      for (int offset : ODD) {
        WindowFrames w = prepared();
        String rest = State.rows(w) + State.results(w) + State.order(w);
        boolean counts = kind == 1 || kind == 3;
        boolean taken = kind >= 0 && kind <= 3 && !(counts && offset < 0);
        String call = "setStart(" + kind + ", " + offset + ")";
        Check.due(call, w.setStart(kind, offset), taken);
        Check.same(call, State.spec(w), taken
            ? "spec 2 1 0 3 " + kind + " " + (counts ? offset : 0) + " 3 5 7"
            : "spec 2 1 0 3 1 4 3 5 7");
        Check.same(call + " leaves the rest", State.rows(w) + State.results(w) + State.order(w), rest);
      }
    }
  }

  private static void promise9SetEnd() {
    for (int kind : ODD) {
      for (int offset : ODD) {
        WindowFrames w = prepared();
        String rest = State.rows(w) + State.results(w) + State.order(w);
        boolean counts = kind == 1 || kind == 3;
        boolean taken = kind >= 1 && kind <= 4 && !(counts && offset < 0);
        String call = "setEnd(" + kind + ", " + offset + ")";
        Check.due(call, w.setEnd(kind, offset), taken);
        Check.same(call, State.spec(w), taken
            ? "spec 2 1 0 3 1 4 " + kind + " " + (counts ? offset : 0) + " 7"
            : "spec 2 1 0 3 1 4 3 5 7");
        Check.same(call + " leaves the rest", State.rows(w) + State.results(w) + State.order(w), rest);
      }
    }
  }

  private static void promise8And9OffsetIsDroppedWithItsKind() {
    WindowFrames w = prepared();
    w.setStart(WindowFrames.BOUND_CURRENT_ROW, 9);
    w.setEnd(WindowFrames.BOUND_UNBOUNDED_FOLLOWING, -9);
    Check.same("kinds without an offset", State.spec(w), "spec 2 1 0 3 2 0 4 0 7");
    w.setStart(WindowFrames.BOUND_FOLLOWING, 0);
    w.setEnd(WindowFrames.BOUND_PRECEDING, MAX);
    Check.same("kinds with an offset", State.spec(w), "spec 2 1 0 3 3 0 1 " + MAX + " 7");
  }

  /** A start after the end is an empty frame, not a refusal. */
  private static void promise8And9BoundsAreApart() {
    for (int start = 0; start <= 3; start++) {
      for (int end = 1; end <= 4; end++) {
        WindowFrames w = new WindowFrames(8);
        Check.due("setEnd(" + end + ")", w.setEnd(end, 3), true);
        Check.due("setStart(" + start + ")", w.setStart(start, 3), true);
        Check.due("setEnd(" + end + ")", w.setEnd(end, 3), true);
        Check.due("start kind", w.specField(WindowFrames.SPEC_START_KIND), start);
        Check.due("end kind", w.specField(WindowFrames.SPEC_END_KIND), end);
      }
    }
  }

  private static void promise14SpecField() {
    WindowFrames w = prepared();
    Check.same("specField", State.spec(w), "spec 2 1 0 3 1 4 3 5 7");
    int[] none = {MIN, -2, -1, 9, 10, 11, 100, MAX};
    for (int field : none) {
      Check.due("specField(" + field + ")", w.specField(field), 0);
    }
    String before = State.of(w);
    for (int field = -2; field <= 10; field++) {
      w.specField(field);
    }
    Check.same("specField changes nothing", State.of(w), before);
    for (int func = 0; func <= 11; func++) {
      w.compute(func, 0);
      Check.due("lastFunc", w.specField(WindowFrames.SPEC_LAST_FUNC), func);
    }
    w.clear();
    Check.due("lastFunc after clear", w.specField(WindowFrames.SPEC_LAST_FUNC), -1);
    w.compute(12, 0);
    Check.due("lastFunc after a refused compute", w.specField(WindowFrames.SPEC_LAST_FUNC), -1);
    w.compute(3, 0);
    Check.due("lastFunc after compute", w.specField(WindowFrames.SPEC_LAST_FUNC), 3);
  }

  /** No part of the specification is at its initial value, and some results are NULL. */
  private static WindowFrames prepared() {
    WindowFrames w = new WindowFrames(8);
    w.setOrder(2, 1);
    w.setMode(0, 3);
    w.setStart(1, 4);
    w.setEnd(3, 5);
    w.addRow(1, 5, 50, 0);
    w.addRow(1, 5, 60, 1);
    w.addRow(2, 7, 70, 2);
    w.addRow(1, 9, 80, 0);
    w.compute(WindowFrames.FN_SUM, 0);
    return w;
  }
}

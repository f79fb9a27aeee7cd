/** The sentences on the specification and of promises 6 to 9 and 14, one test each: refused, accepted, kept. */
final class SpecificationBoundaryTest {
  private static final int MIN = Integer.MIN_VALUE;
  private static final int MAX = Integer.MAX_VALUE;

  private static final int FROM_FIRST = WindowFrames.BOUND_UNBOUNDED_PRECEDING;
  private static final int PRECEDING = WindowFrames.BOUND_PRECEDING;
  private static final int CURRENT = WindowFrames.BOUND_CURRENT_ROW;
  private static final int FOLLOWING = WindowFrames.BOUND_FOLLOWING;
  private static final int TO_LAST = WindowFrames.BOUND_UNBOUNDED_FOLLOWING;

  /** Below every range of the document. */
  private static final int[] TOO_SMALL = {MIN, MIN + 1, MIN + 2, -65536, -256, -4, -3, -2, -1};
  /** Above every range of the document; the last byte or two of some would be in it. */
  private static final int[] TOO_LARGE = {5, 6, 7, 8, 16, 255, 256, 257, 258, 65536, 65537, 1 << 24, MAX - 1, MAX};
  private static final int[] OFFSETS = {MIN, MIN + 1, -1, 0, 1, 31, 32, MAX - 1, MAX};

  public static void main(String[] args) {
    keptUntilChangedByASetter();
    lastFuncIsTheException();
    lastFuncSinceTheLastClear();
    offsetOnlyWithItsKinds();

    setOrderRefusesADirection();
    setOrderRefusesNulls();
    setOrderSetsBoth();
    setOrderChangesNothingElse();
    setOrderCountsForLaterCalls();
    setOrderAcceptsNoOrder();

    setModeRefusesAMode();
    setModeRefusesAnExclude();
    setModeSetsBoth();
    setModeChangesNothingElse();
    setModeAcceptsRange();

    setStartRefusesAKind();
    setStartRefusesUnboundedFollowing();
    setStartRefusesANegativeOffset();
    setStartSetsKindAndOffset();
    setStartDropsOtherOffsets();
    setStartAcceptsOffsetsUpToTheGreatest();
    setStartChangesNothingElse();

    setEndRefusesAKind();
    setEndRefusesUnboundedPreceding();
    setEndRefusesANegativeOffset();
    setEndSetsKindAndOffset();
    setEndDropsOtherOffsets();
    setEndAcceptsOffsetsUpToTheGreatest();
    setEndChangesNothingElse();

    specFieldAnswersEveryPart();
    specFieldOffsets();
    specFieldLastFunc();
    specFieldOfOtherFields();
    specFieldChangesNothing();
    Check.finish();
  }

  // ---- The window specification ----

  private static void keptUntilChangedByASetter() {
    Check.sentence("The specification is kept until changed by a setter, and `clear` does not change it;");
    WindowFrames w = Fixture.busy();
    String due = "spec 2 1 0 3 1 4 3 5 ";
    for (int i = 0; i < 5; i++) {
      w.addRow(i, i, i, i);
      Check.same("addRow", State.spec(w), due + "3");
    }
    for (int func = 0; func <= 11; func++) {
      w.compute(func, 2);
      Check.same("compute", State.spec(w), due + func);
    }
    w.clear();
    Check.same("clear", State.spec(w), due + "-1");
  }

  private static void lastFuncIsTheException() {
    Check.sentence("the one exception is lastFunc, which is set by each `compute` that answers true and reset to"
        + " -1 by `clear`.");
    WindowFrames w = Fixture.busy();
    for (int func = 0; func <= 11; func++) {
      w.compute(func, 0);
      lastFunc(w, "compute(" + func + ", 0)", func);
      w.compute(12, 0);
      w.compute(-1, 0);
      w.compute(WindowFrames.FN_LEAD, -1);
      lastFunc(w, "refused computes", func);
    }
    w.clear();
    lastFunc(w, "clear", -1);
  }

  private static void lastFunc(WindowFrames w, String call, int due) {
    Check.due("lastFunc after " + call, w.specField(WindowFrames.SPEC_LAST_FUNC), due);
  }

  private static void lastFuncSinceTheLastClear() {
    Check.sentence("the func of the last `compute` that answered true since construction or the last `clear` [-1].");
    WindowFrames w = new WindowFrames(8);
    lastFunc(w, "construction", -1);
    w.compute(12, 0);
    lastFunc(w, "a refused compute on a new object", -1);
    w.compute(WindowFrames.FN_ROW_NUMBER, 0);
    lastFunc(w, "the first compute", 0);
    w.clear();
    w.compute(WindowFrames.FN_LAG, -1);
    lastFunc(w, "clear and a refused compute", -1);
    w.compute(WindowFrames.FN_MAX, 0);
    w.compute(WindowFrames.FN_LAG, 0);
    lastFunc(w, "two computes", 3);
  }

  private static void offsetOnlyWithItsKinds() {
    Check.sentence("An offset is kept only with kind `BOUND_PRECEDING` or `BOUND_FOLLOWING`; with any other kind it"
        + " is 0.");
    WindowFrames w = Fixture.busy();
    w.setStart(PRECEDING, 7);
    w.setStart(FROM_FIRST, 7);
    startIs(w, "PRECEDING 7, then UNBOUNDED", FROM_FIRST, 0);
    w.setStart(FOLLOWING, 7);
    w.setStart(CURRENT, 7);
    startIs(w, "FOLLOWING 7, then CURRENT ROW", CURRENT, 0);
    w.setStart(PRECEDING, 0);
    startIs(w, "CURRENT ROW, then PRECEDING 0", PRECEDING, 0);
    w.setEnd(PRECEDING, 7);
    w.setEnd(TO_LAST, 7);
    endIs(w, "PRECEDING 7, then UNBOUNDED", TO_LAST, 0);
    w.setEnd(FOLLOWING, 7);
    w.setEnd(CURRENT, 7);
    endIs(w, "FOLLOWING 7, then CURRENT ROW", CURRENT, 0);
    w.setEnd(FOLLOWING, 0);
    endIs(w, "CURRENT ROW, then FOLLOWING 0", FOLLOWING, 0);
  }

  private static void startIs(WindowFrames w, String call, int kind, int offset) {
    Check.due("start kind after " + call, w.specField(WindowFrames.SPEC_START_KIND), kind);
    Check.due("start offset after " + call, w.specField(WindowFrames.SPEC_START_OFFSET), offset);
  }

  private static void endIs(WindowFrames w, String call, int kind, int offset) {
    Check.due("end kind after " + call, w.specField(WindowFrames.SPEC_END_KIND), kind);
    Check.due("end offset after " + call, w.specField(WindowFrames.SPEC_END_OFFSET), offset);
  }

  // ---- Promise 6 ----

  private static void setOrderRefusesADirection() {
    Check.sentence("`setOrder(direction, nulls)` is refused, answering false with nothing changed, if direction is"
        + " not in 0..2");
    for (int nulls = -1; nulls <= 2; nulls++) {
      for (int direction : TOO_SMALL) {
        refuseOrder(direction, nulls);
      }
      for (int direction : TOO_LARGE) {
        refuseOrder(direction, nulls);
      }
      refuseOrder(3, nulls);
      refuseOrder(4, nulls);
    }
  }

  private static void setOrderRefusesNulls() {
    Check.sentence("or nulls is not 0 or 1.");
    for (int direction = -1; direction <= 3; direction++) {
      for (int nulls : TOO_SMALL) {
        refuseOrder(direction, nulls);
      }
      for (int nulls : TOO_LARGE) {
        refuseOrder(direction, nulls);
      }
      refuseOrder(direction, 2);
      refuseOrder(direction, 3);
      refuseOrder(direction, 4);
    }
  }

  private static void refuseOrder(int direction, int nulls) {
    WindowFrames w = Fixture.busy();
    Check.refused("setOrder(" + direction + ", " + nulls + ")", w, () -> w.setOrder(direction, nulls));
    WindowFrames fresh = new WindowFrames(8);
    Check.refused("setOrder(" + direction + ", " + nulls + ")", fresh, () -> fresh.setOrder(direction, nulls));
  }

  private static void setOrderSetsBoth() {
    Check.sentence("Otherwise it sets direction and nulls and answers true.");
    WindowFrames w = Fixture.busy();
    for (int direction = 0; direction <= 2; direction++) {
      for (int nulls = 0; nulls <= 1; nulls++) {
        Check.due("setOrder(" + direction + ", " + nulls + ")", w.setOrder(direction, nulls), true);
        Check.due("direction", w.specField(WindowFrames.SPEC_DIRECTION), direction);
        Check.due("nulls", w.specField(WindowFrames.SPEC_NULLS), nulls);
        Check.due("the same again", w.setOrder(direction, nulls), true);
      }
    }
  }

  private static void setOrderChangesNothingElse() {
    Check.sentence("Stored results are not changed, nor are the rows, the other parts of the specification or"
        + " lastFunc.");
    for (int direction = 0; direction <= 2; direction++) {
      for (int nulls = 0; nulls <= 1; nulls++) {
        WindowFrames w = Fixture.full();
        String rest = State.rows(w) + State.results(w);
        w.setOrder(direction, nulls);
        Check.same("rows and results", State.rows(w) + State.results(w), rest);
        Check.same("specification", State.spec(w), "spec " + direction + " " + nulls + " 0 3 1 4 3 5 3");
      }
    }
  }

  private static void setOrderCountsForLaterCalls() {
    Check.sentence("The sort order, peers and frames used by later calls follow the new values.");
    WindowFrames w = Fixture.keys(1, 2, 2, 3);
    Fixture.addNullKey(w);
    laterCalls(w, 1, 0, "order 0 1 2 3 4", "results 1 2 2 4 5", "0 1 2");
    laterCalls(w, 1, 1, "order 4 0 1 2 3", "results 2 3 3 5 1", "0 1 2 4");
    laterCalls(w, 2, 0, "order 3 1 2 0 4", "results 4 2 2 1 5", "1 2 3");
    laterCalls(w, 2, 1, "order 4 3 1 2 0", "results 5 3 3 2 1", "1 2 3 4");
    laterCalls(w, 0, 0, "order 0 1 2 3 4", "results 1 1 1 1 1", "0 1 2 3 4");
    laterCalls(w, 0, 1, "order 0 1 2 3 4", "results 1 1 1 1 1", "0 1 2 3 4");
  }

  private static void laterCalls(WindowFrames w, int direction, int nulls, String order, String ranks, String frame) {
    w.setOrder(direction, nulls);
    String call = "setOrder(" + direction + ", " + nulls + ")";
    Check.same(call + ": the order", State.order(w), order);
    w.compute(WindowFrames.FN_RANK, 0);
    Check.same(call + ": the ranks", State.results(w), ranks);
    Check.same(call + ": the frame of row 2", Fixture.frame(w, 2), frame);
  }

  private static void setOrderAcceptsNoOrder() {
    Check.sentence("Setting `ORDER_NONE` is accepted whatever the mode and bounds are.");
    for (int way = 0; way < 2 * 4 * 4; way++) {
      int start = way / 2 % 4;
      int end = 1 + way / 8;
      WindowFrames w = new WindowFrames(8);
      w.setMode(way % 2, 0);
      w.setStart(start, MAX);
      w.setEnd(end, MAX);
      String call = "setOrder(ORDER_NONE) in mode " + way % 2 + " with bounds " + start + " and " + end;
      Check.due(call, w.setOrder(WindowFrames.ORDER_NONE, WindowFrames.NULLS_LAST), true);
      Check.due(call, w.specField(WindowFrames.SPEC_DIRECTION), WindowFrames.ORDER_NONE);
      startIs(w, call, start, start == PRECEDING || start == FOLLOWING ? MAX : 0);
      endIs(w, call, end, end == PRECEDING || end == FOLLOWING ? MAX : 0);
    }
  }

  // ---- Promise 7 ----

  private static void setModeRefusesAMode() {
    Check.sentence("`setMode(mode, exclude)` is refused, answering false with nothing changed, if mode is not in"
        + " 0..1");
    for (int exclude = -1; exclude <= 4; exclude++) {
      for (int mode : TOO_SMALL) {
        refuseMode(mode, exclude);
      }
      for (int mode : TOO_LARGE) {
        refuseMode(mode, exclude);
      }
      refuseMode(2, exclude);
      refuseMode(3, exclude);
      refuseMode(4, exclude);
    }
  }

  private static void setModeRefusesAnExclude() {
    Check.sentence("or exclude is not in 0..3.");
    for (int mode = -1; mode <= 2; mode++) {
      for (int exclude : TOO_SMALL) {
        refuseMode(mode, exclude);
      }
      for (int exclude : TOO_LARGE) {
        refuseMode(mode, exclude);
      }
      refuseMode(mode, 4);
    }
  }

  private static void refuseMode(int mode, int exclude) {
    WindowFrames w = Fixture.busy();
    Check.refused("setMode(" + mode + ", " + exclude + ")", w, () -> w.setMode(mode, exclude));
    WindowFrames fresh = new WindowFrames(8);
    Check.refused("setMode(" + mode + ", " + exclude + ")", fresh, () -> fresh.setMode(mode, exclude));
  }

  private static void setModeSetsBoth() {
    Check.sentence("Otherwise it sets both and answers true.");
    WindowFrames w = Fixture.busy();
    for (int mode = 0; mode <= 1; mode++) {
      for (int exclude = 0; exclude <= 3; exclude++) {
        Check.due("setMode(" + mode + ", " + exclude + ")", w.setMode(mode, exclude), true);
        Check.due("mode", w.specField(WindowFrames.SPEC_MODE), mode);
        Check.due("exclude", w.specField(WindowFrames.SPEC_EXCLUDE), exclude);
      }
    }
  }

  private static void setModeChangesNothingElse() {
    Check.sentence("rows, stored results, the other parts of the specification and lastFunc stay as they were.");
    for (int mode = 0; mode <= 1; mode++) {
      for (int exclude = 0; exclude <= 3; exclude++) {
        WindowFrames w = Fixture.full();
        String rest = rest(w);
        w.setMode(mode, exclude);
        Check.same("rows, results and order", rest(w), rest);
        Check.same("specification", State.spec(w), "spec 2 1 " + mode + " " + exclude + " 1 4 3 5 3");
      }
    }
  }

  private static String rest(WindowFrames w) {
    return State.rows(w) + State.results(w) + State.order(w);
  }

  private static void setModeAcceptsRange() {
    Check.sentence("Setting `MODE_RANGE` is accepted whatever the direction and bounds are.");
    for (int way = 0; way < 3 * 4 * 4; way++) {
      int start = way / 3 % 4;
      int end = 1 + way / 12;
      WindowFrames w = new WindowFrames(8);
      w.setMode(WindowFrames.MODE_ROWS, 0);
      w.setOrder(way % 3, 0);
      w.setStart(start, MAX);
      w.setEnd(end, MAX);
      String call = "setMode(MODE_RANGE) with direction " + way % 3 + ", bounds " + start + " and " + end;
      Check.due(call, w.setMode(WindowFrames.MODE_RANGE, WindowFrames.EXCLUDE_NO_OTHERS), true);
      Check.due(call, w.specField(WindowFrames.SPEC_MODE), WindowFrames.MODE_RANGE);
      Check.due(call, w.specField(WindowFrames.SPEC_DIRECTION), way % 3);
    }
  }

  // ---- Promise 8 ----

  private static void refuseStart(int kind, int offset) {
    WindowFrames w = Fixture.busy();
    Check.refused("setStart(" + kind + ", " + offset + ")", w, () -> w.setStart(kind, offset));
    WindowFrames fresh = new WindowFrames(8);
    Check.refused("setStart(" + kind + ", " + offset + ")", fresh, () -> fresh.setStart(kind, offset));
  }

  private static void setStartRefusesAKind() {
    Check.sentence("`setStart(kind, offset)` is refused, answering false with nothing changed, if kind is not in"
        + " 0..3");
    for (int offset : OFFSETS) {
      for (int kind : TOO_SMALL) {
        refuseStart(kind, offset);
      }
      for (int kind : TOO_LARGE) {
        refuseStart(kind, offset);
      }
      refuseStart(4, offset);
    }
  }

  private static void setStartRefusesUnboundedFollowing() {
    Check.sentence("(`BOUND_UNBOUNDED_FOLLOWING` is refused)");
    for (int offset : OFFSETS) {
      refuseStart(TO_LAST, offset);
    }
  }

  private static void setStartRefusesANegativeOffset() {
    Check.sentence("or if kind is `BOUND_PRECEDING` or `BOUND_FOLLOWING` and offset < 0.");
    int[] negative = {-1, -2, -32, -65536, MIN + 1, MIN};
    for (int offset : negative) {
      refuseStart(PRECEDING, offset);
      refuseStart(FOLLOWING, offset);
    }
  }

  private static void setStartSetsKindAndOffset() {
    Check.sentence("Otherwise it sets the start kind, and the start offset to offset for `BOUND_PRECEDING` and"
        + " `BOUND_FOLLOWING`");
    int[] offsets = {0, 1, 31, 32, 255, 65536, MAX};
    for (int offset : offsets) {
      WindowFrames w = new WindowFrames(8);
      Check.due("setStart(PRECEDING, " + offset + ")", w.setStart(PRECEDING, offset), true);
      startIs(w, "setStart(PRECEDING, " + offset + ")", PRECEDING, offset);
      Check.due("setStart(FOLLOWING, " + offset + ")", w.setStart(FOLLOWING, offset), true);
      startIs(w, "setStart(FOLLOWING, " + offset + ")", FOLLOWING, offset);
    }
  }

  private static void setStartDropsOtherOffsets() {
    Check.sentence("to 0 for the other kinds (whatever offset was passed, negative included), and answers true.");
    int[] kinds = {FROM_FIRST, CURRENT};
    for (int kind : kinds) {
      for (int offset : OFFSETS) {
        WindowFrames w = Fixture.busy();
        Check.due("setStart(" + kind + ", " + offset + ")", w.setStart(kind, offset), true);
        startIs(w, "setStart(" + kind + ", " + offset + ")", kind, 0);
      }
    }
  }

  private static void setStartAcceptsOffsetsUpToTheGreatest() {
    Check.sentence("Offsets up to `Integer.MAX_VALUE` are accepted.");
    for (int back = 0; back < 4; back++) {
      WindowFrames w = new WindowFrames(8);
      Check.due("setStart(PRECEDING)", w.setStart(PRECEDING, MAX - back), true);
      startIs(w, "setStart(PRECEDING)", PRECEDING, MAX - back);
      Check.due("setStart(FOLLOWING)", w.setStart(FOLLOWING, MAX - back), true);
      startIs(w, "setStart(FOLLOWING)", FOLLOWING, MAX - back);
    }
  }

  private static void setStartChangesNothingElse() {
    Check.sentence("the end bound, the other parts of the specification, lastFunc, rows and stored results stay as"
        + " they were.");
    for (int kind = 0; kind <= 3; kind++) {
      WindowFrames w = Fixture.full();
      String rest = rest(w);
      w.setStart(kind, 9);
      Check.same("rows, results and order", rest(w), rest);
      int offset = kind == PRECEDING || kind == FOLLOWING ? 9 : 0;
      Check.same("specification", State.spec(w), "spec 2 1 0 3 " + kind + " " + offset + " 3 5 3");
    }
  }

  // ---- Promise 9 ----

  private static void refuseEnd(int kind, int offset) {
    WindowFrames w = Fixture.busy();
    Check.refused("setEnd(" + kind + ", " + offset + ")", w, () -> w.setEnd(kind, offset));
    WindowFrames fresh = new WindowFrames(8);
    Check.refused("setEnd(" + kind + ", " + offset + ")", fresh, () -> fresh.setEnd(kind, offset));
  }

  private static void setEndRefusesAKind() {
    Check.sentence("`setEnd(kind, offset)` is refused, answering false with nothing changed, if kind is not in"
        + " 1..4");
    for (int offset : OFFSETS) {
      for (int kind : TOO_SMALL) {
        refuseEnd(kind, offset);
      }
      for (int kind : TOO_LARGE) {
        refuseEnd(kind, offset);
      }
      refuseEnd(0, offset);
    }
  }

  private static void setEndRefusesUnboundedPreceding() {
    Check.sentence("(`BOUND_UNBOUNDED_PRECEDING` is refused)");
    for (int offset : OFFSETS) {
      refuseEnd(FROM_FIRST, offset);
    }
  }

  private static void setEndRefusesANegativeOffset() {
    Check.sentence("or if kind is `BOUND_PRECEDING` or `BOUND_FOLLOWING` and offset < 0.");
    int[] negative = {-1, -2, -32, -65536, MIN + 1, MIN};
    for (int offset : negative) {
      refuseEnd(PRECEDING, offset);
      refuseEnd(FOLLOWING, offset);
    }
  }

  private static void setEndSetsKindAndOffset() {
    Check.sentence("Otherwise it sets the end kind, and the end offset to offset for `BOUND_PRECEDING` and"
        + " `BOUND_FOLLOWING`");
    int[] offsets = {0, 1, 31, 32, 255, 65536, MAX};
    for (int offset : offsets) {
      WindowFrames w = new WindowFrames(8);
      Check.due("setEnd(PRECEDING, " + offset + ")", w.setEnd(PRECEDING, offset), true);
      endIs(w, "setEnd(PRECEDING, " + offset + ")", PRECEDING, offset);
      Check.due("setEnd(FOLLOWING, " + offset + ")", w.setEnd(FOLLOWING, offset), true);
      endIs(w, "setEnd(FOLLOWING, " + offset + ")", FOLLOWING, offset);
    }
  }

  private static void setEndDropsOtherOffsets() {
    Check.sentence("to 0 for the other kinds (whatever offset was passed, negative included), and answers true.");
    int[] kinds = {CURRENT, TO_LAST};
    for (int kind : kinds) {
      for (int offset : OFFSETS) {
        WindowFrames w = Fixture.busy();
        Check.due("setEnd(" + kind + ", " + offset + ")", w.setEnd(kind, offset), true);
        endIs(w, "setEnd(" + kind + ", " + offset + ")", kind, 0);
      }
    }
  }

  private static void setEndAcceptsOffsetsUpToTheGreatest() {
    Check.sentence("Offsets up to `Integer.MAX_VALUE` are accepted.");
    for (int back = 0; back < 4; back++) {
      WindowFrames w = new WindowFrames(8);
      Check.due("setEnd(PRECEDING)", w.setEnd(PRECEDING, MAX - back), true);
      endIs(w, "setEnd(PRECEDING)", PRECEDING, MAX - back);
      Check.due("setEnd(FOLLOWING)", w.setEnd(FOLLOWING, MAX - back), true);
      endIs(w, "setEnd(FOLLOWING)", FOLLOWING, MAX - back);
    }
  }

  private static void setEndChangesNothingElse() {
    Check.sentence("the start bound, the other parts of the specification, lastFunc, rows and stored results stay"
        + " as they were.");
    for (int kind = 1; kind <= 4; kind++) {
      WindowFrames w = Fixture.full();
      String rest = rest(w);
      w.setEnd(kind, 9);
      Check.same("rows, results and order", rest(w), rest);
      int offset = kind == PRECEDING || kind == FOLLOWING ? 9 : 0;
      Check.same("specification", State.spec(w), "spec 2 1 0 3 1 4 " + kind + " " + offset + " 3");
    }
  }

  // ---- Promise 14 ----

  private static void specFieldAnswersEveryPart() {
    Check.sentence("`specField(field)` answers, for `SPEC_DIRECTION`, `SPEC_NULLS`, `SPEC_MODE`, `SPEC_EXCLUDE`,"
        + " `SPEC_START_KIND`, `SPEC_START_OFFSET`, `SPEC_END_KIND` and `SPEC_END_OFFSET`, the current value of"
        + " that part of the specification");
    WindowFrames w = Fixture.busy();
    Check.due("SPEC_DIRECTION", w.specField(WindowFrames.SPEC_DIRECTION), 2);
    Check.due("SPEC_NULLS", w.specField(WindowFrames.SPEC_NULLS), 1);
    Check.due("SPEC_MODE", w.specField(WindowFrames.SPEC_MODE), 0);
    Check.due("SPEC_EXCLUDE", w.specField(WindowFrames.SPEC_EXCLUDE), 3);
    Check.due("SPEC_START_KIND", w.specField(WindowFrames.SPEC_START_KIND), 1);
    Check.due("SPEC_START_OFFSET", w.specField(WindowFrames.SPEC_START_OFFSET), 4);
    Check.due("SPEC_END_KIND", w.specField(WindowFrames.SPEC_END_KIND), 3);
    Check.due("SPEC_END_OFFSET", w.specField(WindowFrames.SPEC_END_OFFSET), 5);
    w.setMode(WindowFrames.MODE_RANGE, 0);
    Check.due("SPEC_MODE", w.specField(WindowFrames.SPEC_MODE), 1);
  }

  private static void specFieldOffsets() {
    Check.sentence("(an offset is 0 unless its kind is `BOUND_PRECEDING` or `BOUND_FOLLOWING`)");
    for (int start = 0; start <= 3; start++) {
      for (int end = 1; end <= 4; end++) {
        WindowFrames w = Fixture.busy();
        w.setStart(start, MAX);
        w.setEnd(end, MAX - 1);
        Check.due("start offset of kind " + start, w.specField(WindowFrames.SPEC_START_OFFSET),
            start == PRECEDING || start == FOLLOWING ? MAX : 0);
        Check.due("end offset of kind " + end, w.specField(WindowFrames.SPEC_END_OFFSET),
            end == PRECEDING || end == FOLLOWING ? MAX - 1 : 0);
      }
    }
  }

  private static void specFieldLastFunc() {
    Check.sentence("for `SPEC_LAST_FUNC`, lastFunc (-1 after construction or `clear` until a `compute` answers true).");
    WindowFrames w = new WindowFrames(8);
    for (int func = 0; func <= 11; func++) {
      lastFunc(w, "construction or clear", -1);
      w.compute(-1, 0);
      w.compute(12, 0);
      w.compute(WindowFrames.FN_LAG, -1);
      lastFunc(w, "refused computes", -1);
      w.compute(func, 0);
      lastFunc(w, "compute", func);
      w.clear();
    }
  }

  private static void specFieldOfOtherFields() {
    Check.sentence("Any other field answers 0.");
    WindowFrames w = Fixture.busy();
    for (int field = -300; field <= 300; field++) {
      if (field < 0 || field > 8) {
        Check.due("specField(" + field + ")", w.specField(field), 0);
      }
    }
    int[] far = {MIN, MIN + 1, MIN + 8, -65536, 65536, 65537, 1 << 24, MAX - 1, MAX};
    for (int field : far) {
      Check.due("specField(" + field + ")", w.specField(field), 0);
    }
  }

  private static void specFieldChangesNothing() {
    Check.sentence("The call changes nothing.");
    int[] fields = {MIN, -1, 0, 1, 2, 3, 4, 5, 6, 7, 8, 9, MAX};
    for (int field : fields) {
      Fixture.changesNothing("specField(" + field + ")", w -> w.specField(field));
    }
  }
}

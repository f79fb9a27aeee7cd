/**
 * The sentences on sort order and frame, one test each: the row on a bound and those beside it, rows without a
 * key, empty frames, and bounds beyond the extremes of int. Frames are told by the ids of their rows.
 */
final class FrameBoundaryTest {
  private static final int MIN = Integer.MIN_VALUE;
  private static final int MAX = Integer.MAX_VALUE;

  private static final int ROWS = WindowFrames.MODE_ROWS;
  private static final int RANGE = WindowFrames.MODE_RANGE;
  private static final int FROM_FIRST = WindowFrames.BOUND_UNBOUNDED_PRECEDING;
  private static final int PRECEDING = WindowFrames.BOUND_PRECEDING;
  private static final int CURRENT = WindowFrames.BOUND_CURRENT_ROW;
  private static final int FOLLOWING = WindowFrames.BOUND_FOLLOWING;
  private static final int TO_LAST = WindowFrames.BOUND_UNBOUNDED_FOLLOWING;

  private static final int NONE = WindowFrames.ORDER_NONE;
  private static final int ASC = WindowFrames.ORDER_ASC;
  private static final int DESC = WindowFrames.ORDER_DESC;
  private static final int LAST = WindowFrames.NULLS_LAST;
  private static final int FIRST = WindowFrames.NULLS_FIRST;

  public static void main(String[] args) {
    smallerPartFirst();
    noKeysWithoutOrder();
    nullKeysAtTheirEnd();
    smallerOrGreaterKeyFirst();
    twoNullsDoNotDiffer();
    smallerIdFirst();
    partitionIsOfOnePart();
    positionCountsThePartition();
    peersAreNotToldApart();
    aRowIsItsOwnPeer();
    noOrderMakesOnePeerGroup();
    keyBeforeIsOfOnePartition();
    arithmeticIsExact();
    theSumOfTheExample();

    frameIsOfThePartition();
    startUnboundedPasses();
    startRowsPreceding();
    startRowsCurrent();
    startRowsFollowing();
    startRangeCurrent();
    startRangeOfNullKey();
    startRangeFailsNullKeys();
    startRangeAscending();
    startRangeDescending();
    endUnboundedPasses();
    endRowsPreceding();
    endRowsCurrent();
    endRowsFollowing();
    endRangeCurrent();
    endRangeOfNullKey();
    endRangeFailsNullKeys();
    endRangeAscending();
    endRangeDescending();
    emptyFrameIsAllowed();
    excludeNoOthers();
    excludeCurrentRow();
    excludeGroup();
    excludeTies();
    Check.finish();
  }

  // ---- Sort order ----

  private static WindowFrames parts(int... parts) {
    WindowFrames w = new WindowFrames(32);
    for (int i = 0; i < parts.length; i++) {
      w.addRow(parts[i], 0, 1 << i, 0);
    }
    return w;
  }

  private static void smallerPartFirst() {
    Check.sentence("the smaller P first (signed comparison);");
    for (int direction = NONE; direction <= DESC; direction++) {
      WindowFrames w = parts(MAX, 1, 0, -1, MIN, MAX - 1, MIN + 1);
      w.setOrder(direction, LAST);
      Check.same("direction " + direction, State.order(w), "order 4 6 3 2 1 5 0");
      WindowFrames two = new WindowFrames(8);
      two.addRow(1, 0, 0, 3);
      two.addRow(1, MIN, 0, 0);
      two.addRow(1, MAX, 0, 0);
      two.addRow(0, 0, 0, 0);
      two.setOrder(direction, FIRST);
      Check.due("P counts before O and before NULL, direction " + direction, two.rowAt(0), 3);
    }
  }

  private static void noKeysWithoutOrder() {
    Check.sentence("only when direction is not `ORDER_NONE`:");
    WindowFrames w = Fixture.keys(MAX, MIN, 0);
    Fixture.addNullKey(w);
    w.addRow(0, MIN, 0, 0);
    w.setOrder(NONE, LAST);
    Check.same("NULLS LAST", State.order(w), "order 0 1 2 3 4");
    w.setOrder(NONE, FIRST);
    Check.same("NULLS FIRST", State.order(w), "order 0 1 2 3 4");
  }

  private static void nullKeysAtTheirEnd() {
    Check.sentence("if exactly one of the two O is NULL, the NULL one comes first under `NULLS_FIRST` and last under"
        + " `NULLS_LAST`;");
    WindowFrames w = Fixture.keys(MIN, MAX, 0);
    Fixture.addNullKey(w);
    orderIs(w, ASC, LAST, "order 0 2 1 3");
    orderIs(w, ASC, FIRST, "order 3 0 2 1");
    orderIs(w, DESC, LAST, "order 1 2 0 3");
    orderIs(w, DESC, FIRST, "order 3 1 2 0");
    WindowFrames first = new WindowFrames(8);
    Fixture.addNullKey(first);
    first.addRow(0, MIN, 0, 0);
    first.addRow(0, MAX, 0, 0);
    orderIs(first, ASC, LAST, "order 1 2 0");
    orderIs(first, ASC, FIRST, "order 0 1 2");
    orderIs(first, DESC, LAST, "order 2 1 0");
    orderIs(first, DESC, FIRST, "order 0 2 1");
  }

  private static void orderIs(WindowFrames w, int direction, int nulls, String due) {
    w.setOrder(direction, nulls);
    Check.same("direction " + direction + ", nulls " + nulls, State.order(w), due);
  }

  private static void smallerOrGreaterKeyFirst() {
    Check.sentence("if both O are non-NULL and differ, the smaller comes first under `ORDER_ASC` and the greater"
        + " first under `ORDER_DESC`;");
    WindowFrames w = Fixture.keys(0, MAX, MIN, -1, 1, MAX - 1, MIN + 1);
    orderIs(w, ASC, LAST, "order 2 6 3 0 4 5 1");
    orderIs(w, DESC, LAST, "order 1 5 4 0 3 6 2");
    orderIs(w, ASC, FIRST, "order 2 6 3 0 4 5 1");
    orderIs(w, DESC, FIRST, "order 1 5 4 0 3 6 2");
  }

  private static void twoNullsDoNotDiffer() {
    Check.sentence("two NULLs do not differ;");
    WindowFrames w = new WindowFrames(8);
    w.addRow(0, MAX, 1, WindowFrames.NULL_ORD);
    w.addRow(0, MIN, 2, WindowFrames.NULL_ORD);
    w.addRow(0, 0, 4, WindowFrames.NULL_ORD);
    for (int direction = ASC; direction <= DESC; direction++) {
      for (int nulls = LAST; nulls <= FIRST; nulls++) {
        orderIs(w, direction, nulls, "order 0 1 2");
        w.compute(WindowFrames.FN_RANK, 0);
        Check.same("rank", State.results(w), "results 1 1 1");
        Check.same("frame", Fixture.frame(w, 0), "0 1 2");
      }
    }
  }

  private static void smallerIdFirst() {
    Check.sentence("the smaller id first.");
    int[] same = new int[32];
    for (int direction = NONE; direction <= DESC; direction++) {
      WindowFrames w = Fixture.keys(same);
      w.setOrder(direction, FIRST);
      for (int pos = 0; pos < 32; pos++) {
        Check.due("rowAt(" + pos + ") of equal rows", w.rowAt(pos), pos);
      }
    }
  }

  private static void partitionIsOfOnePart() {
    Check.sentence("The partition of row r is the set of rows with the same P as r (r included).");
    WindowFrames w = parts(MIN, MIN + 1, -1, 0, 1, MAX - 1, MAX, MIN, MAX, 0);
    w.setEnd(TO_LAST, 0);
    String[] due = {"0 7", "1", "2", "3 9", "4", "5", "6 8", "0 7", "6 8", "3 9"};
    for (int row = 0; row < due.length; row++) {
      Check.same("partition of row " + row, Fixture.frame(w, row), due[row]);
    }
  }

  private static void positionCountsThePartition() {
    Check.sentence("pos(r) is the number of rows of r's partition that come before r.");
    WindowFrames w = new WindowFrames(8);
    w.addRow(0, 5, 0, 0);
    w.addRow(1, 4, 0, 0);
    w.addRow(0, 3, 0, 0);
    w.addRow(1, 9, 0, 0);
    w.addRow(2, 1, 0, 0);
    w.compute(WindowFrames.FN_ROW_NUMBER, 0);
    Check.same("the first of each partition has position 0", State.results(w), "results 2 1 1 2 1");
    WindowFrames full = Fixture.thirtyTwo();
    full.setOrder(DESC, LAST);
    full.compute(WindowFrames.FN_ROW_NUMBER, 0);
    Check.due("the last of 32", full.result(0), 32);
    Check.due("the first of 32", full.result(31), 1);
  }

  private static void peersAreNotToldApart() {
    Check.sentence("Two rows of one partition are peers when steps 1 and 2 do not tell them apart;");
    WindowFrames w = new WindowFrames(8);
    w.addRow(0, 5, 1, 0);
    w.addRow(1, 5, 2, 0);
    w.addRow(0, 5, 4, 0);
    w.addRow(0, 6, 8, 0);
    w.addRow(0, 0, 16, WindowFrames.NULL_ORD);
    w.addRow(0, 0, 32, 0);
    w.setStart(CURRENT, 0);
    Check.same("the same key", Fixture.frame(w, 0), "0 2");
    Check.same("the same key", Fixture.frame(w, 2), "0 2");
    Check.same("the same key in another partition", Fixture.frame(w, 1), "1");
    Check.same("a key one greater", Fixture.frame(w, 3), "3");
    Check.same("NULL and 0 are no peers", Fixture.frame(w, 4), "4");
    Check.same("0 and NULL are no peers", Fixture.frame(w, 5), "5");
  }

  private static void aRowIsItsOwnPeer() {
    Check.sentence("a row is its own peer");
    WindowFrames w = Fixture.keys(1, 2, 3);
    Fixture.addNullKey(w);
    w.setStart(CURRENT, 0);
    for (int row = 0; row < 4; row++) {
      Check.same("current row to current row", Fixture.frame(w, row), String.valueOf(row));
    }
    w.setMode(RANGE, WindowFrames.EXCLUDE_GROUP);
    for (int row = 0; row < 4; row++) {
      Check.same("without its group", Fixture.frame(w, row), "");
    }
  }

  private static void noOrderMakesOnePeerGroup() {
    Check.sentence("under `ORDER_NONE` a whole partition is one peer group.");
    WindowFrames w = Fixture.keys(1, 2, MIN, MAX);
    Fixture.addNullKey(w);
    w.addRow(1, 1, 32, 0);
    w.setOrder(NONE, LAST);
    w.setStart(CURRENT, 0);
    for (int row = 0; row < 5; row++) {
      Check.same("the peers of row " + row, Fixture.frame(w, row), "0 1 2 3 4");
    }
    Check.same("another partition", Fixture.frame(w, 5), "5");
    WindowFrames full = Fixture.thirtyTwo();
    full.setOrder(NONE, LAST);
    full.compute(WindowFrames.FN_COUNT_STAR, 0);
    for (int row = 0; row < 32; row++) {
      Check.due("the peers in a full table", full.result(row), 32);
    }
  }

  private static void keyBeforeIsOfOnePartition() {
    Check.sentence("For rows s and r of one partition: s is KEY-BEFORE r when s is not a peer of r and comes before"
        + " r; s is KEY-AFTER r when s is not a peer of r and comes after r.");
    WindowFrames w = new WindowFrames(8);
    w.addRow(0, 1, 1, 0);
    w.addRow(1, 2, 2, 0);
    w.addRow(1, 2, 4, 0);
    w.addRow(1, 3, 8, 0);
    w.addRow(2, 4, 16, 0);
    w.compute(WindowFrames.FN_RANK, 0);
    Check.same("KEY-BEFORE", State.results(w), "results 1 1 1 3 1");
    w.compute(WindowFrames.FN_DENSE_RANK, 0);
    Check.same("groups KEY-BEFORE", State.results(w), "results 1 1 1 2 1");
    w.setEnd(CURRENT, 0);
    Check.same("a peer that comes after is not KEY-AFTER", Fixture.frame(w, 1), "1 2");
    w.setStart(CURRENT, 0);
    w.setEnd(TO_LAST, 0);
    Check.same("a peer that comes before is not KEY-BEFORE", Fixture.frame(w, 2), "1 2 3");
  }

  private static void arithmeticIsExact() {
    Check.sentence("All arithmetic on keys, positions and offsets in these definitions is exact (mathematical"
        + " integers, no wrap-around of int or long).");
    WindowFrames w = Fixture.keys(MIN, MAX);
    for (int n = MAX; n >= MAX - 2; n--) {
      frame(w, ASC, RANGE, PRECEDING, n, FOLLOWING, n);
      Check.same("keys further apart than " + n, Fixture.frame(w, 0), "0");
      Check.same("keys further apart than " + n, Fixture.frame(w, 1), "1");
      frame(w, ASC, ROWS, PRECEDING, n, FOLLOWING, n);
      Check.same("positions nearer than " + n, Fixture.frame(w, 0), "0 1");
      Check.same("positions nearer than " + n, Fixture.frame(w, 1), "0 1");
      w.compute(WindowFrames.FN_LEAD, n);
      Check.same("no position " + n + " ahead", State.results(w), "results - -");
    }
  }

  private static void theSumOfTheExample() {
    Check.sentence("For example, with k = `Integer.MAX_VALUE` and n = `Integer.MAX_VALUE`, k + n is the true sum, not"
        + " a wrapped value.");
    WindowFrames w = Fixture.keys(MIN, -3, -2, -1, 0, MAX);
    frame(w, ASC, RANGE, FROM_FIRST, 0, FOLLOWING, MAX);
    Check.same("x <= k + n", Fixture.frame(w, 5), "0 1 2 3 4 5");
    frame(w, ASC, RANGE, FOLLOWING, MAX, TO_LAST, 0);
    Check.same("x >= k + n", Fixture.frame(w, 5), "");
    frame(w, DESC, RANGE, PRECEDING, MAX, TO_LAST, 0);
    Check.same("x <= k + n", Fixture.frame(w, 5), "0 1 2 3 4 5");
    frame(w, DESC, RANGE, FROM_FIRST, 0, PRECEDING, MAX);
    Check.same("x >= k + n", Fixture.frame(w, 5), "");
  }

  // ---- Frame ----

  private static void frame(WindowFrames w, int direction, int mode, int start, int from, int end, int to) {
    w.setOrder(direction, w.specField(WindowFrames.SPEC_NULLS));
    w.setMode(mode, w.specField(WindowFrames.SPEC_EXCLUDE));
    Check.due("setStart", w.setStart(start, from), true);
    Check.due("setEnd", w.setEnd(end, to), true);
  }

  /** The frame of row with this start and an open end. */
  private static void start(WindowFrames w, int row, int kind, int offset, String due) {
    w.setStart(kind, offset);
    w.setEnd(TO_LAST, 0);
    Check.same("frame of row " + row + " under " + State.spec(w), Fixture.frame(w, row), due);
  }

  /** The frame of row with this end and an open start. */
  private static void end(WindowFrames w, int row, int kind, int offset, String due) {
    w.setStart(FROM_FIRST, 0);
    w.setEnd(kind, offset);
    Check.same("frame of row " + row + " under " + State.spec(w), Fixture.frame(w, row), due);
  }

  /** Seven rows in the order of their ids; rows 2, 3 and 4 are peers. */
  private static WindowFrames seven() {
    WindowFrames w = Fixture.keys(1, 2, 3, 3, 3, 4, 5);
    w.setMode(ROWS, WindowFrames.EXCLUDE_NO_OTHERS);
    return w;
  }

  /** Seven rows in the order of their ids, whatever their keys: only positions count in MODE_ROWS. */
  private static WindowFrames[] sevens() {
    WindowFrames unordered = Fixture.keys(4, 9, 1, 1, MIN, MAX, 0);
    unordered.setOrder(NONE, LAST);
    WindowFrames someKeys = Fixture.keys(MIN, 0, MAX);
    WindowFrames noKeys = new WindowFrames(8);
    for (int i = 0; i < 7; i++) {
      Fixture.addNullKey(noKeys);
    }
    for (int i = 3; i < 7; i++) {
      Fixture.addNullKey(someKeys);
    }
    WindowFrames[] tables = {seven(), unordered, someKeys, noKeys};
    for (WindowFrames w : tables) {
      w.setMode(ROWS, WindowFrames.EXCLUDE_NO_OTHERS);
    }
    return tables;
  }

  /** Row 3 has the key 10, row 4 too; beside them all keys from 7 to 13; row 8 has none. */
  private static WindowFrames around(int direction, int nulls) {
    WindowFrames w = Fixture.keys(7, 8, 9, 10, 10, 11, 12, 13);
    Fixture.addNullKey(w);
    w.setOrder(direction, nulls);
    return w;
  }

  /** The keys at which k + n and k - n meet the ends of int when n is the greatest int. */
  private static WindowFrames extremes(int direction) {
    WindowFrames w = Fixture.keys(MIN, MIN + 1, -2, -1, 0, 1, MAX - 1, MAX);
    w.setOrder(direction, LAST);
    return w;
  }

  private static final String ALL = "0 1 2 3 4 5 6 7";
  private static final String[] NOT_BELOW_K_MINUS_MAX = {
    ALL, ALL, ALL, ALL, "1 2 3 4 5 6 7", "2 3 4 5 6 7", "3 4 5 6 7", "4 5 6 7"};
  private static final String[] NOT_BELOW_K_PLUS_MAX = {"3 4 5 6 7", "4 5 6 7", "6 7", "6 7", "7", "", "", ""};
  private static final String[] NOT_ABOVE_K_MINUS_MAX = {"", "", "", "0", "0 1", "0 1", "0 1 2 3", "0 1 2 3 4"};
  private static final String[] NOT_ABOVE_K_PLUS_MAX = {
    "0 1 2 3", "0 1 2 3 4", "0 1 2 3 4 5", "0 1 2 3 4 5 6", ALL, ALL, ALL, ALL};

  private static void starts(int direction, int kind, String[] due) {
    for (int row = 0; row < due.length; row++) {
      start(extremes(direction), row, kind, MAX, due[row]);
    }
  }

  private static void ends(int direction, int kind, String[] due) {
    for (int row = 0; row < due.length; row++) {
      end(extremes(direction), row, kind, MAX, due[row]);
    }
  }

  private static void frameIsOfThePartition() {
    Check.sentence("The frame of row r is the set of rows s of r's partition that pass the start test and the end"
        + " test, less the excluded rows.");
    WindowFrames w = new WindowFrames(8);
    w.addRow(0, 1, 1, 0);
    w.addRow(1, 1, 2, 0);
    w.addRow(0, 2, 4, 0);
    w.addRow(1, 2, 8, 0);
    w.addRow(0, 3, 16, 0);
    for (int mode = ROWS; mode <= RANGE; mode++) {
      frame(w, ASC, mode, FROM_FIRST, 0, TO_LAST, 0);
      Check.same("the whole partition", Fixture.frame(w, 0), "0 2 4");
      Check.same("the whole partition", Fixture.frame(w, 3), "1 3");
      frame(w, ASC, mode, PRECEDING, 1, FOLLOWING, 1);
      Check.same("both tests", Fixture.frame(w, 0), "0 2");
      Check.same("both tests", Fixture.frame(w, 2), "0 2 4");
      frame(w, ASC, mode, FOLLOWING, 1, FOLLOWING, 1);
      Check.same("both tests", Fixture.frame(w, 0), "2");
      Check.same("beyond the last row", Fixture.frame(w, 4), "");
      Check.same("beyond the last row, where another partition has one", Fixture.frame(w, 3), "");
      w.setMode(mode, WindowFrames.EXCLUDE_CURRENT_ROW);
      frame(w, ASC, mode, PRECEDING, 1, FOLLOWING, 1);
      Check.same("less the excluded row", Fixture.frame(w, 2), "0 4");
      w.setMode(mode, WindowFrames.EXCLUDE_NO_OTHERS);
    }
  }

  private static void startUnboundedPasses() {
    Check.sentence("`BOUND_UNBOUNDED_PRECEDING`: always passes.");
    for (int direction = NONE; direction <= DESC; direction++) {
      for (int nulls = LAST; nulls <= FIRST; nulls++) {
        for (int mode = ROWS; mode <= RANGE; mode++) {
          WindowFrames w = around(direction, nulls);
          w.setMode(mode, WindowFrames.EXCLUDE_NO_OTHERS);
          for (int row = 0; row < 9; row++) {
            start(w, row, FROM_FIRST, MAX, ALL + " 8");
          }
        }
      }
    }
  }

  private static void startRowsPreceding() {
    Check.sentence("`MODE_ROWS`: `BOUND_PRECEDING`: pos(s) >= pos(r) - n;");
    for (WindowFrames w : sevens()) {
      start(w, 3, PRECEDING, 0, "3 4 5 6");
      start(w, 3, PRECEDING, 1, "2 3 4 5 6");
      start(w, 3, PRECEDING, 2, "1 2 3 4 5 6");
      start(w, 3, PRECEDING, 3, "0 1 2 3 4 5 6");
      start(w, 3, PRECEDING, 4, "0 1 2 3 4 5 6");
      start(w, 0, PRECEDING, 1, "0 1 2 3 4 5 6");
      start(w, 6, PRECEDING, 5, "1 2 3 4 5 6");
      for (int row = 0; row < 7; row++) {
        start(w, row, PRECEDING, MAX, "0 1 2 3 4 5 6");
      }
    }
  }

  private static void startRowsCurrent() {
    Check.sentence("`BOUND_CURRENT_ROW`: pos(s) >= pos(r);");
    for (WindowFrames w : sevens()) {
      start(w, 0, CURRENT, 0, "0 1 2 3 4 5 6");
      start(w, 3, CURRENT, 0, "3 4 5 6");
      start(w, 4, CURRENT, 0, "4 5 6");
      start(w, 6, CURRENT, 0, "6");
    }
  }

  private static void startRowsFollowing() {
    Check.sentence("`BOUND_FOLLOWING`: pos(s) >= pos(r) + n.");
    for (WindowFrames w : sevens()) {
      start(w, 3, FOLLOWING, 0, "3 4 5 6");
      start(w, 3, FOLLOWING, 1, "4 5 6");
      start(w, 3, FOLLOWING, 3, "6");
      start(w, 3, FOLLOWING, 4, "");
      start(w, 6, FOLLOWING, 0, "6");
      start(w, 6, FOLLOWING, 1, "");
      for (int row = 0; row < 7; row++) {
        start(w, row, FOLLOWING, MAX, "");
        start(w, row, FOLLOWING, MAX - row, "");
      }
    }
  }

  private static void startRangeCurrent() {
    Check.sentence("`MODE_RANGE`: `BOUND_CURRENT_ROW`: s is not KEY-BEFORE r.");
    for (int row = 3; row <= 4; row++) {
      start(around(ASC, LAST), row, CURRENT, 0, "3 4 5 6 7 8");
      start(around(ASC, FIRST), row, CURRENT, 0, "3 4 5 6 7");
      start(around(DESC, LAST), row, CURRENT, 0, "0 1 2 3 4 8");
      start(around(DESC, FIRST), row, CURRENT, 0, "0 1 2 3 4");
      start(around(NONE, LAST), row, CURRENT, 0, "0 1 2 3 4 5 6 7 8");
    }
    start(around(ASC, LAST), 0, CURRENT, 0, "0 1 2 3 4 5 6 7 8");
    start(around(ASC, LAST), 8, CURRENT, 0, "8");
    start(around(ASC, FIRST), 8, CURRENT, 0, "0 1 2 3 4 5 6 7 8");
  }

  private static final int[] ANY_OFFSET = {0, 1, 2, MAX - 1, MAX};

  private static void startRangeOfNullKey() {
    Check.sentence("`BOUND_PRECEDING` or `BOUND_FOLLOWING` with k NULL: exactly as `BOUND_CURRENT_ROW`.");
    for (int offset : ANY_OFFSET) {
      for (int direction = ASC; direction <= DESC; direction++) {
        start(twoNulls(direction, LAST), 8, PRECEDING, offset, "8 9");
        start(twoNulls(direction, LAST), 9, FOLLOWING, offset, "8 9");
        start(twoNulls(direction, FIRST), 8, FOLLOWING, offset, "0 1 2 3 4 5 6 7 8 9");
        start(twoNulls(direction, FIRST), 9, PRECEDING, offset, "0 1 2 3 4 5 6 7 8 9");
      }
    }
  }

  private static WindowFrames twoNulls(int direction, int nulls) {
    WindowFrames w = around(direction, nulls);
    Fixture.addNullKey(w);
    return w;
  }

  private static void startRangeFailsNullKeys() {
    Check.sentence("`BOUND_PRECEDING` or `BOUND_FOLLOWING` with k not NULL: fails if x is NULL;");
    for (int nulls = LAST; nulls <= FIRST; nulls++) {
      for (int direction = ASC; direction <= DESC; direction++) {
        WindowFrames w = around(direction, nulls);
        start(w, 3, PRECEDING, MAX, ALL);
        start(w, 3, PRECEDING, 10, ALL);
        start(w, 3, FOLLOWING, MAX, "");
        start(w, 3, FOLLOWING, 10, "");
        start(w, 3, PRECEDING, 0, direction == ASC ? "3 4 5 6 7" : "0 1 2 3 4");
        start(w, 3, FOLLOWING, 0, direction == ASC ? "3 4 5 6 7" : "0 1 2 3 4");
        WindowFrames zero = Fixture.keys(0);
        Fixture.addNullKey(zero);
        zero.setOrder(direction, nulls);
        start(zero, 0, PRECEDING, 0, "0");
        start(zero, 0, FOLLOWING, 0, "0");
      }
    }
  }

  private static void startRangeAscending() {
    Check.sentence("otherwise under `ORDER_ASC`: PRECEDING x >= k - n, FOLLOWING x >= k + n;");
    WindowFrames w = around(ASC, LAST);
    start(w, 3, PRECEDING, 1, "2 3 4 5 6 7");
    start(w, 3, PRECEDING, 2, "1 2 3 4 5 6 7");
    start(w, 4, PRECEDING, 3, ALL);
    start(w, 3, FOLLOWING, 1, "5 6 7");
    start(w, 4, FOLLOWING, 2, "6 7");
    start(w, 3, FOLLOWING, 3, "7");
    start(w, 3, FOLLOWING, 4, "");
    starts(ASC, PRECEDING, NOT_BELOW_K_MINUS_MAX);
    starts(ASC, FOLLOWING, NOT_BELOW_K_PLUS_MAX);
    start(extremes(ASC), 0, PRECEDING, 1, ALL);
    start(extremes(ASC), 7, FOLLOWING, 1, "");
    start(extremes(ASC), 6, FOLLOWING, 1, "7");
  }

  private static void startRangeDescending() {
    Check.sentence("under `ORDER_DESC`: PRECEDING x <= k + n, FOLLOWING x <= k - n.");
    WindowFrames w = around(DESC, LAST);
    start(w, 3, PRECEDING, 1, "0 1 2 3 4 5");
    start(w, 3, PRECEDING, 2, "0 1 2 3 4 5 6");
    start(w, 4, PRECEDING, 3, ALL);
    start(w, 3, FOLLOWING, 1, "0 1 2");
    start(w, 4, FOLLOWING, 2, "0 1");
    start(w, 3, FOLLOWING, 3, "0");
    start(w, 3, FOLLOWING, 4, "");
    starts(DESC, PRECEDING, NOT_ABOVE_K_PLUS_MAX);
    starts(DESC, FOLLOWING, NOT_ABOVE_K_MINUS_MAX);
    start(extremes(DESC), 7, PRECEDING, 1, ALL);
    start(extremes(DESC), 0, FOLLOWING, 1, "");
    start(extremes(DESC), 1, FOLLOWING, 1, "0");
  }

  private static void endUnboundedPasses() {
    Check.sentence("`BOUND_UNBOUNDED_FOLLOWING`: always passes.");
    for (int direction = NONE; direction <= DESC; direction++) {
      for (int nulls = LAST; nulls <= FIRST; nulls++) {
        for (int mode = ROWS; mode <= RANGE; mode++) {
          WindowFrames w = around(direction, nulls);
          w.setMode(mode, WindowFrames.EXCLUDE_NO_OTHERS);
          for (int row = 0; row < 9; row++) {
            end(w, row, TO_LAST, MAX, ALL + " 8");
          }
        }
      }
    }
  }

  private static void endRowsPreceding() {
    Check.sentence("`MODE_ROWS`: `BOUND_PRECEDING`: pos(s) <= pos(r) - n;");
    for (WindowFrames w : sevens()) {
      end(w, 3, PRECEDING, 0, "0 1 2 3");
      end(w, 3, PRECEDING, 1, "0 1 2");
      end(w, 3, PRECEDING, 3, "0");
      end(w, 3, PRECEDING, 4, "");
      end(w, 0, PRECEDING, 0, "0");
      end(w, 0, PRECEDING, 1, "");
      for (int row = 0; row < 7; row++) {
        end(w, row, PRECEDING, MAX, "");
      }
    }
  }

  private static void endRowsCurrent() {
    Check.sentence("`BOUND_CURRENT_ROW`: pos(s) <= pos(r);");
    for (WindowFrames w : sevens()) {
      end(w, 0, CURRENT, 0, "0");
      end(w, 2, CURRENT, 0, "0 1 2");
      end(w, 3, CURRENT, 0, "0 1 2 3");
      end(w, 6, CURRENT, 0, "0 1 2 3 4 5 6");
    }
  }

  private static void endRowsFollowing() {
    Check.sentence("`BOUND_FOLLOWING`: pos(s) <= pos(r) + n.");
    for (WindowFrames w : sevens()) {
      end(w, 3, FOLLOWING, 0, "0 1 2 3");
      end(w, 3, FOLLOWING, 1, "0 1 2 3 4");
      end(w, 3, FOLLOWING, 2, "0 1 2 3 4 5");
      end(w, 3, FOLLOWING, 3, "0 1 2 3 4 5 6");
      end(w, 3, FOLLOWING, 4, "0 1 2 3 4 5 6");
      end(w, 6, FOLLOWING, 1, "0 1 2 3 4 5 6");
      for (int row = 0; row < 7; row++) {
        end(w, row, FOLLOWING, MAX, "0 1 2 3 4 5 6");
        end(w, row, FOLLOWING, MAX - row, "0 1 2 3 4 5 6");
      }
    }
  }

  private static void endRangeCurrent() {
    Check.sentence("`MODE_RANGE`: `BOUND_CURRENT_ROW`: s is not KEY-AFTER r.");
    for (int row = 3; row <= 4; row++) {
      end(around(ASC, LAST), row, CURRENT, 0, "0 1 2 3 4");
      end(around(ASC, FIRST), row, CURRENT, 0, "0 1 2 3 4 8");
      end(around(DESC, LAST), row, CURRENT, 0, "3 4 5 6 7");
      end(around(DESC, FIRST), row, CURRENT, 0, "3 4 5 6 7 8");
      end(around(NONE, LAST), row, CURRENT, 0, "0 1 2 3 4 5 6 7 8");
    }
    end(around(ASC, LAST), 0, CURRENT, 0, "0");
    end(around(ASC, LAST), 8, CURRENT, 0, "0 1 2 3 4 5 6 7 8");
    end(around(ASC, FIRST), 8, CURRENT, 0, "8");
  }

  private static void endRangeOfNullKey() {
    Check.sentence("`BOUND_PRECEDING` or `BOUND_FOLLOWING` with k NULL: exactly as `BOUND_CURRENT_ROW`.");
    for (int offset : ANY_OFFSET) {
      for (int direction = ASC; direction <= DESC; direction++) {
        end(twoNulls(direction, FIRST), 8, PRECEDING, offset, "8 9");
        end(twoNulls(direction, FIRST), 9, FOLLOWING, offset, "8 9");
        end(twoNulls(direction, LAST), 8, FOLLOWING, offset, "0 1 2 3 4 5 6 7 8 9");
        end(twoNulls(direction, LAST), 9, PRECEDING, offset, "0 1 2 3 4 5 6 7 8 9");
      }
    }
  }

  private static void endRangeFailsNullKeys() {
    Check.sentence("`BOUND_PRECEDING` or `BOUND_FOLLOWING` with k not NULL: fails if x is NULL;");
    for (int nulls = LAST; nulls <= FIRST; nulls++) {
      for (int direction = ASC; direction <= DESC; direction++) {
        WindowFrames w = around(direction, nulls);
        end(w, 3, FOLLOWING, MAX, ALL);
        end(w, 3, FOLLOWING, 10, ALL);
        end(w, 3, PRECEDING, MAX, "");
        end(w, 3, PRECEDING, 10, "");
        end(w, 3, FOLLOWING, 0, direction == ASC ? "0 1 2 3 4" : "3 4 5 6 7");
        end(w, 3, PRECEDING, 0, direction == ASC ? "0 1 2 3 4" : "3 4 5 6 7");
        WindowFrames zero = Fixture.keys(0);
        Fixture.addNullKey(zero);
        zero.setOrder(direction, nulls);
        end(zero, 0, PRECEDING, 0, "0");
        end(zero, 0, FOLLOWING, 0, "0");
      }
    }
  }

  private static void endRangeAscending() {
    Check.sentence("otherwise under `ORDER_ASC`: PRECEDING x <= k - n, FOLLOWING x <= k + n;");
    WindowFrames w = around(ASC, LAST);
    end(w, 3, PRECEDING, 1, "0 1 2");
    end(w, 4, PRECEDING, 2, "0 1");
    end(w, 3, PRECEDING, 3, "0");
    end(w, 3, PRECEDING, 4, "");
    end(w, 3, FOLLOWING, 1, "0 1 2 3 4 5");
    end(w, 4, FOLLOWING, 2, "0 1 2 3 4 5 6");
    end(w, 3, FOLLOWING, 3, ALL);
    ends(ASC, PRECEDING, NOT_ABOVE_K_MINUS_MAX);
    ends(ASC, FOLLOWING, NOT_ABOVE_K_PLUS_MAX);
    end(extremes(ASC), 0, PRECEDING, 1, "");
    end(extremes(ASC), 1, PRECEDING, 1, "0");
    end(extremes(ASC), 7, FOLLOWING, 1, ALL);
  }

  private static void endRangeDescending() {
    Check.sentence("under `ORDER_DESC`: PRECEDING x >= k + n, FOLLOWING x >= k - n.");
    WindowFrames w = around(DESC, LAST);
    end(w, 3, PRECEDING, 1, "5 6 7");
    end(w, 4, PRECEDING, 2, "6 7");
    end(w, 3, PRECEDING, 3, "7");
    end(w, 3, PRECEDING, 4, "");
    end(w, 3, FOLLOWING, 1, "2 3 4 5 6 7");
    end(w, 4, FOLLOWING, 2, "1 2 3 4 5 6 7");
    end(w, 3, FOLLOWING, 3, ALL);
    ends(DESC, PRECEDING, NOT_BELOW_K_PLUS_MAX);
    ends(DESC, FOLLOWING, NOT_BELOW_K_MINUS_MAX);
    end(extremes(DESC), 7, PRECEDING, 1, "");
    end(extremes(DESC), 6, PRECEDING, 1, "7");
    end(extremes(DESC), 0, FOLLOWING, 1, ALL);
  }

  private static void emptyFrameIsAllowed() {
    Check.sentence("A start test that passes only rows after those the end test passes gives an empty frame; that is"
        + " allowed.");
    for (int direction = ASC; direction <= DESC; direction++) {
      for (int mode = ROWS; mode <= RANGE; mode++) {
        empty(direction, mode, FOLLOWING, 2, FOLLOWING, 1);
        empty(direction, mode, FOLLOWING, 1, CURRENT, 0);
        empty(direction, mode, FOLLOWING, 1, PRECEDING, 1);
        empty(direction, mode, FOLLOWING, MAX, PRECEDING, MAX);
        empty(direction, mode, FOLLOWING, MAX, FOLLOWING, MAX - 1);
        empty(direction, mode, CURRENT, 0, PRECEDING, 1);
        empty(direction, mode, CURRENT, 0, PRECEDING, MAX);
        empty(direction, mode, PRECEDING, 1, PRECEDING, 2);
        empty(direction, mode, PRECEDING, 0, PRECEDING, 1);
        empty(direction, mode, PRECEDING, MAX - 1, PRECEDING, MAX);
      }
    }
  }

  private static void empty(int direction, int mode, int start, int from, int end, int to) {
    WindowFrames w = Fixture.keys(1, 2, 2, 3, 4, MIN, MAX);
    frame(w, direction, mode, start, from, end, to);
    Check.due("compute under " + State.spec(w), w.compute(WindowFrames.FN_COUNT_STAR, 0), true);
    Check.same("compute under " + State.spec(w), State.results(w), "results 0 0 0 0 0 0 0");
  }

  // ---- Excluded rows: rows 2, 3 and 4 of seven are peers ----

  private static void excluded(int exclude, int row, int end, String due) {
    for (int mode = ROWS; mode <= RANGE; mode++) {
      WindowFrames w = seven();
      w.setMode(mode, exclude);
      w.setStart(FROM_FIRST, 0);
      w.setEnd(end, 0);
      Check.same("frame of row " + row + " under " + State.spec(w), Fixture.frame(w, row), due);
    }
  }

  /** A frame that does not hold the row itself has nothing of it to lose. */
  private static void excludedFromAfar(int exclude, String due) {
    WindowFrames w = seven();
    w.setMode(ROWS, exclude);
    w.setStart(FOLLOWING, 1);
    w.setEnd(TO_LAST, 0);
    Check.same("frame of row 3 under " + State.spec(w), Fixture.frame(w, 3), due);
  }

  private static void excludeNoOthers() {
    Check.sentence("`EXCLUDE_NO_OTHERS`: none;");
    excluded(WindowFrames.EXCLUDE_NO_OTHERS, 3, TO_LAST, "0 1 2 3 4 5 6");
    excluded(WindowFrames.EXCLUDE_NO_OTHERS, 0, CURRENT, "0");
    excludedFromAfar(WindowFrames.EXCLUDE_NO_OTHERS, "4 5 6");
  }

  private static void excludeCurrentRow() {
    Check.sentence("`EXCLUDE_CURRENT_ROW`: r itself;");
    excluded(WindowFrames.EXCLUDE_CURRENT_ROW, 3, TO_LAST, "0 1 2 4 5 6");
    excluded(WindowFrames.EXCLUDE_CURRENT_ROW, 0, TO_LAST, "1 2 3 4 5 6");
    excluded(WindowFrames.EXCLUDE_CURRENT_ROW, 6, TO_LAST, "0 1 2 3 4 5");
    excluded(WindowFrames.EXCLUDE_CURRENT_ROW, 0, CURRENT, "");
    excludedFromAfar(WindowFrames.EXCLUDE_CURRENT_ROW, "4 5 6");
  }

  private static void excludeGroup() {
    Check.sentence("`EXCLUDE_GROUP`: r and all its peers;");
    for (int row = 2; row <= 4; row++) {
      excluded(WindowFrames.EXCLUDE_GROUP, row, TO_LAST, "0 1 5 6");
    }
    excluded(WindowFrames.EXCLUDE_GROUP, 0, TO_LAST, "1 2 3 4 5 6");
    excluded(WindowFrames.EXCLUDE_GROUP, 0, CURRENT, "");
    excludedFromAfar(WindowFrames.EXCLUDE_GROUP, "5 6");
    WindowFrames none = seven();
    none.setOrder(NONE, LAST);
    none.setMode(RANGE, WindowFrames.EXCLUDE_GROUP);
    for (int row = 0; row < 7; row++) {
      start(none, row, FROM_FIRST, 0, "");
    }
  }

  private static void excludeTies() {
    Check.sentence("`EXCLUDE_TIES`: the peers of r other than r.");
    excluded(WindowFrames.EXCLUDE_TIES, 2, TO_LAST, "0 1 2 5 6");
    excluded(WindowFrames.EXCLUDE_TIES, 3, TO_LAST, "0 1 3 5 6");
    excluded(WindowFrames.EXCLUDE_TIES, 4, TO_LAST, "0 1 4 5 6");
    excluded(WindowFrames.EXCLUDE_TIES, 0, CURRENT, "0");
    excludedFromAfar(WindowFrames.EXCLUDE_TIES, "5 6");
    WindowFrames none = seven();
    none.setOrder(NONE, LAST);
    none.setMode(RANGE, WindowFrames.EXCLUDE_TIES);
    for (int row = 0; row < 7; row++) {
      start(none, row, FROM_FIRST, 0, String.valueOf(row));
    }
  }
}

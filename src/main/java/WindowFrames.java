public final class WindowFrames {
  public static final int ORDER_NONE = 0;
  public static final int ORDER_ASC = 1;
  public static final int ORDER_DESC = 2;

  public static final int NULLS_LAST = 0;
  public static final int NULLS_FIRST = 1;

  public static final int MODE_ROWS = 0;
  public static final int MODE_RANGE = 1;

  public static final int EXCLUDE_NO_OTHERS = 0;
  public static final int EXCLUDE_CURRENT_ROW = 1;
  public static final int EXCLUDE_GROUP = 2;
  public static final int EXCLUDE_TIES = 3;

  public static final int BOUND_UNBOUNDED_PRECEDING = 0;
  public static final int BOUND_PRECEDING = 1;
  public static final int BOUND_CURRENT_ROW = 2;
  public static final int BOUND_FOLLOWING = 3;
  public static final int BOUND_UNBOUNDED_FOLLOWING = 4;

  public static final int FN_ROW_NUMBER = 0;
  public static final int FN_RANK = 1;
  public static final int FN_DENSE_RANK = 2;
  public static final int FN_LAG = 3;
  public static final int FN_LEAD = 4;
  public static final int FN_FIRST_VALUE = 5;
  public static final int FN_LAST_VALUE = 6;
  public static final int FN_SUM = 7;
  public static final int FN_COUNT = 8;
  public static final int FN_COUNT_STAR = 9;
  public static final int FN_MIN = 10;
  public static final int FN_MAX = 11;

  public static final int NULL_ORD = 1;
  public static final int NULL_VAL = 2;

  public static final int FIELD_PART = 0;
  public static final int FIELD_ORD = 1;
  public static final int FIELD_VAL = 2;
  public static final int FIELD_MASK = 3;

  public static final int SPEC_DIRECTION = 0;
  public static final int SPEC_NULLS = 1;
  public static final int SPEC_MODE = 2;
  public static final int SPEC_EXCLUDE = 3;
  public static final int SPEC_START_KIND = 4;
  public static final int SPEC_START_OFFSET = 5;
  public static final int SPEC_END_KIND = 6;
  public static final int SPEC_END_OFFSET = 7;
  public static final int SPEC_LAST_FUNC = 8;

  private static final int MIN_CAPACITY = 8;
  private static final int MAX_CAPACITY = 32;
  private static final int NO_FUNC = -1;
  private static final int NO_ROW = -1;

  private final int capacity;
  private int count = 0;

  // A NULL key or value is held as 0 beside its flag, so that the argument is not kept.
  private final int[] partOf = new int[MAX_CAPACITY];
  private final int[] ordOf = new int[MAX_CAPACITY];
  private final int[] valOf = new int[MAX_CAPACITY];
  private final boolean[] ordNull = new boolean[MAX_CAPACITY];
  private final boolean[] valNull = new boolean[MAX_CAPACITY];

  // A NULL result is held as 0 beside its flag, which is what result answers for it.
  private final long[] stored = new long[MAX_CAPACITY];
  private final boolean[] storedNull = new boolean[MAX_CAPACITY];

  // Work space of compute: no answer is read from it after the call.
  private final int[] position = new int[MAX_CAPACITY];
  private final boolean[] inFrame = new boolean[MAX_CAPACITY];

  private int direction = ORDER_ASC;
  private int nulls = NULLS_LAST;
  private int mode = MODE_RANGE;
  private int exclude = EXCLUDE_NO_OTHERS;
  private int startKind = BOUND_UNBOUNDED_PRECEDING;
  private int startOffset = 0;
  private int endKind = BOUND_CURRENT_ROW;
  private int endOffset = 0;
  private int lastFunc = NO_FUNC;

  public WindowFrames(int capacity) {
    if (capacity < MIN_CAPACITY) {
      this.capacity = MIN_CAPACITY;
    } else if (capacity > MAX_CAPACITY) {
      this.capacity = MAX_CAPACITY;
    } else {
      this.capacity = capacity;
    }
  }

  public int capacity() {
    return capacity;
  }

  public int rowCount() {
    return count;
  }

  public int addRow(int part, int ord, int val, int nullMask) {
    if (count >= capacity) {
      return NO_ROW;
    }
    int row = count;
    partOf[row] = part;
    ordNull[row] = (nullMask & NULL_ORD) != 0;
    ordOf[row] = ordNull[row] ? 0 : ord;
    valNull[row] = (nullMask & NULL_VAL) != 0;
    valOf[row] = valNull[row] ? 0 : val;
    storeNull(row);
    count = row + 1;
    return row;
  }

  public void clear() {
    count = 0;
    lastFunc = NO_FUNC;
  }

  public boolean setOrder(int direction, int nulls) {
    if (direction < ORDER_NONE || direction > ORDER_DESC) {
      return false;
    }
    if (nulls < NULLS_LAST || nulls > NULLS_FIRST) {
      return false;
    }
    this.direction = direction;
    this.nulls = nulls;
    return true;
  }

  public boolean setMode(int mode, int exclude) {
    if (mode < MODE_ROWS || mode > MODE_RANGE) {
      return false;
    }
    if (exclude < EXCLUDE_NO_OTHERS || exclude > EXCLUDE_TIES) {
      return false;
    }
    this.mode = mode;
    this.exclude = exclude;
    return true;
  }

  public boolean setStart(int kind, int offset) {
    if (kind < BOUND_UNBOUNDED_PRECEDING || kind > BOUND_FOLLOWING) {
      return false;
    }
    if (takesOffset(kind) && offset < 0) {
      return false;
    }
    startKind = kind;
    startOffset = takesOffset(kind) ? offset : 0;
    return true;
  }

  public boolean setEnd(int kind, int offset) {
    if (kind < BOUND_PRECEDING || kind > BOUND_UNBOUNDED_FOLLOWING) {
      return false;
    }
    if (takesOffset(kind) && offset < 0) {
      return false;
    }
    endKind = kind;
    endOffset = takesOffset(kind) ? offset : 0;
    return true;
  }

  public boolean compute(int func, int arg) {
    if (func < FN_ROW_NUMBER || func > FN_MAX) {
      return false;
    }
    if ((func == FN_LAG || func == FN_LEAD) && arg < 0) {
      return false;
    }
    if (needsMissingOrder()) {
      return false;
    }
    markPositions();
    for (int row = 0; row < count; row++) {
      storeResult(row, func, arg);
    }
    lastFunc = func;
    return true;
  }

  public long result(int row) {
    return isRow(row) ? stored[row] : 0L;
  }

  public boolean resultIsNull(int row) {
    return !isRow(row) || storedNull[row];
  }

  public int rowAt(int pos) {
    for (int row = 0; row < count; row++) {
      if (rowsBefore(row) == pos) {
        return row;
      }
    }
    return NO_ROW;
  }

  public int rowField(int row, int field) {
    if (!isRow(row)) {
      return 0;
    }
    switch (field) {
      case FIELD_PART:
        return partOf[row];
      case FIELD_ORD:
        return ordOf[row];
      case FIELD_VAL:
        return valOf[row];
      case FIELD_MASK:
        return (ordNull[row] ? NULL_ORD : 0) + (valNull[row] ? NULL_VAL : 0);
      default:
        return 0;
    }
  }

  public int specField(int field) {
    switch (field) {
      case SPEC_DIRECTION:
        return direction;
      case SPEC_NULLS:
        return nulls;
      case SPEC_MODE:
        return mode;
      case SPEC_EXCLUDE:
        return exclude;
      case SPEC_START_KIND:
        return startKind;
      case SPEC_START_OFFSET:
        return startOffset;
      case SPEC_END_KIND:
        return endKind;
      case SPEC_END_OFFSET:
        return endOffset;
      case SPEC_LAST_FUNC:
        return lastFunc;
      default:
        return 0;
    }
  }

  private boolean isRow(int row) {
    return row >= 0 && row < count;
  }

  private static boolean takesOffset(int kind) {
    return kind == BOUND_PRECEDING || kind == BOUND_FOLLOWING;
  }

  // A range offset is a distance along the order keys, which means nothing under ORDER_NONE.
  private boolean needsMissingOrder() {
    return mode == MODE_RANGE
        && direction == ORDER_NONE
        && (takesOffset(startKind) || takesOffset(endKind));
  }

  // ---- Sort order ----

  // Steps 1 and 2 of the sort order without the id, so that 0 means "peers" (of one partition).
  private int compareKeys(int a, int b) {
    if (partOf[a] != partOf[b]) {
      return partOf[a] < partOf[b] ? -1 : 1;
    }
    if (direction == ORDER_NONE) {
      return 0;
    }
    if (ordNull[a] != ordNull[b]) {
      return ordNull[a] == (nulls == NULLS_FIRST) ? -1 : 1;
    }
    if (ordNull[a] || ordOf[a] == ordOf[b]) {
      return 0;
    }
    return (ordOf[a] < ordOf[b]) == (direction == ORDER_ASC) ? -1 : 1;
  }

  private boolean comesBefore(int a, int b) {
    int order = compareKeys(a, b);
    return order < 0 || (order == 0 && a < b);
  }

  private boolean isKeyBefore(int a, int b) {
    return partOf[a] == partOf[b] && compareKeys(a, b) < 0;
  }

  private int rowsBefore(int row) {
    int before = 0;
    for (int other = 0; other < count; other++) {
      if (comesBefore(other, row)) {
        before++;
      }
    }
    return before;
  }

  private int partitionRowsBefore(int row) {
    int before = 0;
    for (int other = 0; other < count; other++) {
      if (partOf[other] == partOf[row] && comesBefore(other, row)) {
        before++;
      }
    }
    return before;
  }

  private void markPositions() {
    for (int row = 0; row < count; row++) {
      position[row] = partitionRowsBefore(row);
    }
  }

  // ---- Frame ----

  private void markFrame(int row) {
    for (int other = 0; other < count; other++) {
      inFrame[other] = partOf[other] == partOf[row]
          && passesStart(other, row)
          && passesEnd(other, row)
          && !isExcluded(other, row);
    }
  }

  private boolean passesStart(int other, int row) {
    if (startKind == BOUND_UNBOUNDED_PRECEDING) {
      return true;
    }
    if (isBoundByPeers(startKind, row)) {
      return compareKeys(other, row) >= 0;
    }
    return hasDistance(other) && distance(other, row) >= reach(startKind, startOffset);
  }

  private boolean passesEnd(int other, int row) {
    if (endKind == BOUND_UNBOUNDED_FOLLOWING) {
      return true;
    }
    if (isBoundByPeers(endKind, row)) {
      return compareKeys(other, row) <= 0;
    }
    return hasDistance(other) && distance(other, row) <= reach(endKind, endOffset);
  }

  // A row without an order key has no distance to others: its offset bounds act as CURRENT ROW.
  private boolean isBoundByPeers(int kind, int row) {
    return mode == MODE_RANGE && (!takesOffset(kind) || ordNull[row]);
  }

  private boolean hasDistance(int other) {
    return mode == MODE_ROWS || !ordNull[other];
  }

  // A long, since two int keys can lie 2^32 - 1 apart. Under ORDER_DESC the sign turns, so that a
  // positive distance always means "after row" and one comparison serves both directions.
  private long distance(int other, int row) {
    if (mode == MODE_ROWS) {
      return (long) position[other] - position[row];
    }
    long ascending = (long) ordOf[other] - ordOf[row];
    return direction == ORDER_DESC ? -ascending : ascending;
  }

  private static long reach(int kind, int offset) {
    return kind == BOUND_PRECEDING ? -(long) offset : (long) offset;
  }

  private boolean isExcluded(int other, int row) {
    switch (exclude) {
      case EXCLUDE_CURRENT_ROW:
        return other == row;
      case EXCLUDE_GROUP:
        return compareKeys(other, row) == 0;
      case EXCLUDE_TIES:
        return other != row && compareKeys(other, row) == 0;
      default:
        return false;
    }
  }

  // ---- Functions ----

  private void storeResult(int row, int func, int arg) {
    if (func >= FN_FIRST_VALUE) {
      markFrame(row);
    }
    if (answersValueOfOneRow(func)) {
      int source = sourceRow(row, func, arg);
      storeValueOf(row, source);
    } else if (func == FN_SUM && frameValues() == 0) {
      storeNull(row);
    } else {
      long number = numberFor(row, func);
      storeNumber(row, number);
    }
  }

  private void storeNull(int row) {
    stored[row] = 0L;
    storedNull[row] = true;
  }

  private void storeNumber(int row, long number) {
    stored[row] = number;
    storedNull[row] = false;
  }

  private void storeValueOf(int row, int source) {
    if (source == NO_ROW || valNull[source]) {
      storeNull(row);
    } else {
      storeNumber(row, valOf[source]);
    }
  }

  private static boolean answersValueOfOneRow(int func) {
    switch (func) {
      case FN_LAG:
      case FN_LEAD:
      case FN_FIRST_VALUE:
      case FN_LAST_VALUE:
      case FN_MIN:
      case FN_MAX:
        return true;
      default:
        return false;
    }
  }

  private int sourceRow(int row, int func, int arg) {
    switch (func) {
      case FN_LAG:
        return partitionRowAt(row, (long) position[row] - arg);
      case FN_LEAD:
        return partitionRowAt(row, (long) position[row] + arg);
      case FN_FIRST_VALUE:
        return firstOfFrame();
      case FN_LAST_VALUE:
        return lastOfFrame();
      case FN_MIN:
        return leastOfFrame();
      default:
        return greatestOfFrame();
    }
  }

  private long numberFor(int row, int func) {
    switch (func) {
      case FN_ROW_NUMBER:
        return position[row] + 1L;
      case FN_RANK:
        return rank(row);
      case FN_DENSE_RANK:
        return denseRank(row);
      case FN_SUM:
        return frameSum();
      case FN_COUNT:
        return frameValues();
      default:
        return frameRows();
    }
  }

  private int rank(int row) {
    int rank = 1;
    for (int other = 0; other < count; other++) {
      if (isKeyBefore(other, row)) {
        rank++;
      }
    }
    return rank;
  }

  private int denseRank(int row) {
    int rank = 1;
    for (int other = 0; other < count; other++) {
      if (isKeyBefore(other, row) && isFirstOfItsPeers(other)) {
        rank++;
      }
    }
    return rank;
  }

  private boolean isFirstOfItsPeers(int row) {
    for (int other = 0; other < row; other++) {
      if (compareKeys(other, row) == 0) {
        return false;
      }
    }
    return true;
  }

  private int partitionRowAt(int row, long target) {
    for (int other = 0; other < count; other++) {
      if (partOf[other] == partOf[row] && position[other] == target) {
        return other;
      }
    }
    return NO_ROW;
  }

  private int firstOfFrame() {
    int first = NO_ROW;
    for (int other = 0; other < count; other++) {
      if (inFrame[other] && (first == NO_ROW || position[other] < position[first])) {
        first = other;
      }
    }
    return first;
  }

  private int lastOfFrame() {
    int last = NO_ROW;
    for (int other = 0; other < count; other++) {
      if (inFrame[other] && (last == NO_ROW || position[other] > position[last])) {
        last = other;
      }
    }
    return last;
  }

  private int leastOfFrame() {
    int least = NO_ROW;
    for (int other = 0; other < count; other++) {
      if (inFrame[other] && !valNull[other] && (least == NO_ROW || valOf[other] < valOf[least])) {
        least = other;
      }
    }
    return least;
  }

  private int greatestOfFrame() {
    int greatest = NO_ROW;
    for (int other = 0; other < count; other++) {
      if (inFrame[other] && !valNull[other] && (greatest == NO_ROW || valOf[other] > valOf[greatest])) {
        greatest = other;
      }
    }
    return greatest;
  }

  private long frameSum() {
    long sum = 0L;
    for (int other = 0; other < count; other++) {
      if (inFrame[other] && !valNull[other]) {
        sum += valOf[other];
      }
    }
    return sum;
  }

  private int frameValues() {
    int values = 0;
    for (int other = 0; other < count; other++) {
      if (inFrame[other] && !valNull[other]) {
        values++;
      }
    }
    return values;
  }

  private int frameRows() {
    int rows = 0;
    for (int other = 0; other < count; other++) {
      if (inFrame[other]) {
        rows++;
      }
    }
    return rows;
  }
}

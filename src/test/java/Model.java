import java.math.BigInteger;
import java.util.ArrayList;
import java.util.HashSet;
import java.util.List;
import java.util.Set;

/**
 * The document's words taken one by one, with BigInteger and null, and in another shape than the program
 * (a sorted list, sets of rows), so that the two are not wrong in the same way.
 */
final class Model {
  private static final class Row {
    int id;
    int p;
    Integer o;
    Integer v;
    Long stored;
  }

  private final int capacity;
  private final List<Row> rows = new ArrayList<>();
  private int direction = 1;
  private int nulls = 0;
  private int mode = 1;
  private int exclude = 0;
  private int startKind = 0;
  private int startOffset = 0;
  private int endKind = 2;
  private int endOffset = 0;
  private int lastFunc = -1;

  Model(int capacity) {
    this.capacity = Math.max(8, Math.min(32, capacity));
  }

  int addRow(int part, int ord, int val, int nullMask) {
    if (rows.size() == capacity) {
      return -1;
    }
    Row row = new Row();
    row.id = rows.size();
    row.p = part;
    row.o = (nullMask & 1) != 0 ? null : Integer.valueOf(ord);
    row.v = (nullMask & 2) != 0 ? null : Integer.valueOf(val);
    rows.add(row);
    return row.id;
  }

  void clear() {
    rows.clear();
    lastFunc = -1;
  }

  boolean setOrder(int newDirection, int newNulls) {
    if (!Set.of(0, 1, 2).contains(newDirection) || !Set.of(0, 1).contains(newNulls)) {
      return false;
    }
    direction = newDirection;
    nulls = newNulls;
    return true;
  }

  boolean setMode(int newMode, int newExclude) {
    if (!Set.of(0, 1).contains(newMode) || !Set.of(0, 1, 2, 3).contains(newExclude)) {
      return false;
    }
    mode = newMode;
    exclude = newExclude;
    return true;
  }

  boolean setStart(int kind, int offset) {
    if (!Set.of(0, 1, 2, 3).contains(kind) || (Set.of(1, 3).contains(kind) && offset < 0)) {
      return false;
    }
    startKind = kind;
    startOffset = Set.of(1, 3).contains(kind) ? offset : 0;
    return true;
  }

  boolean setEnd(int kind, int offset) {
    if (!Set.of(1, 2, 3, 4).contains(kind) || (Set.of(1, 3).contains(kind) && offset < 0)) {
      return false;
    }
    endKind = kind;
    endOffset = Set.of(1, 3).contains(kind) ? offset : 0;
    return true;
  }

  boolean compute(int func, int arg) {
    if (func < 0 || func > 11 || ((func == 3 || func == 4) && arg < 0)) {
      return false;
    }
    boolean counts = Set.of(1, 3).contains(startKind) || Set.of(1, 3).contains(endKind);
    if (mode == 1 && direction == 0 && counts) {
      return false;
    }
    for (Row r : rows) {
      r.stored = result(r, func, arg);
    }
    lastFunc = func;
    return true;
  }

  /** The same text as {@link State#of} gives for the program. */
  String state() {
    StringBuilder text = new StringBuilder("spec");
    int[] spec = {direction, nulls, mode, exclude, startKind, startOffset, endKind, endOffset, lastFunc};
    for (int part : spec) {
      text.append(' ').append(part);
    }
    text.append(" rows ").append(rows.size()).append('/').append(capacity);
    for (Row r : rows) {
      text.append(" (").append(r.p).append(' ').append(r.o == null ? 0 : r.o).append(' ');
      text.append(r.v == null ? 0 : r.v).append(' ').append((r.o == null ? 1 : 0) + (r.v == null ? 2 : 0)).append(')');
    }
    text.append(" results");
    for (Row r : rows) {
      text.append(' ').append(r.stored == null ? "-" : r.stored.toString());
    }
    text.append(" order");
    List<Row> sorted = new ArrayList<>(rows);
    sorted.sort(this::sortOrder);
    for (Row r : sorted) {
      text.append(' ').append(r.id);
    }
    return text.toString();
  }

  private int sortOrder(Row a, Row b) {
    int keys = keyOrder(a, b);
    return keys != 0 ? keys : Integer.compare(a.id, b.id);
  }

  private int keyOrder(Row a, Row b) {
    if (a.p != b.p) {
      return Integer.compare(a.p, b.p);
    }
    if (direction == 0 || (a.o == null && b.o == null)) {
      return 0;
    }
    if (a.o == null) {
      return nulls == 1 ? -1 : 1;
    }
    if (b.o == null) {
      return nulls == 1 ? 1 : -1;
    }
    return direction == 1 ? a.o.compareTo(b.o) : b.o.compareTo(a.o);
  }

  private List<Row> partition(Row r) {
    List<Row> partition = new ArrayList<>();
    for (Row s : rows) {
      if (s.p == r.p) {
        partition.add(s);
      }
    }
    partition.sort(this::sortOrder);
    return partition;
  }

  private BigInteger pos(Row r) {
    return BigInteger.valueOf(partition(r).indexOf(r));
  }

  private boolean peers(Row s, Row r) {
    return keyOrder(s, r) == 0;
  }

  private boolean keyBefore(Row s, Row r) {
    return !peers(s, r) && sortOrder(s, r) < 0;
  }

  private boolean keyAfter(Row s, Row r) {
    return !peers(s, r) && sortOrder(s, r) > 0;
  }

  private static BigInteger big(int number) {
    return BigInteger.valueOf(number);
  }

  private static boolean atLeast(BigInteger a, BigInteger b) {
    return a.compareTo(b) >= 0;
  }

  private boolean startTest(Row s, Row r) {
    BigInteger n = big(startOffset);
    if (startKind == 0) {
      return true;
    }
    if (mode == 0) {
      BigInteger bound = startKind == 1 ? pos(r).subtract(n) : startKind == 2 ? pos(r) : pos(r).add(n);
      return atLeast(pos(s), bound);
    }
    if (startKind == 2 || r.o == null) {
      return !keyBefore(s, r);
    }
    if (s.o == null) {
      return false;
    }
    BigInteger k = big(r.o);
    BigInteger x = big(s.o);
    if (direction == 1) {
      return startKind == 1 ? atLeast(x, k.subtract(n)) : atLeast(x, k.add(n));
    }
    return startKind == 1 ? atLeast(k.add(n), x) : atLeast(k.subtract(n), x);
  }

  private boolean endTest(Row s, Row r) {
    BigInteger n = big(endOffset);
    if (endKind == 4) {
      return true;
    }
    if (mode == 0) {
      BigInteger bound = endKind == 1 ? pos(r).subtract(n) : endKind == 2 ? pos(r) : pos(r).add(n);
      return atLeast(bound, pos(s));
    }
    if (endKind == 2 || r.o == null) {
      return !keyAfter(s, r);
    }
    if (s.o == null) {
      return false;
    }
    BigInteger k = big(r.o);
    BigInteger x = big(s.o);
    if (direction == 1) {
      return endKind == 1 ? atLeast(k.subtract(n), x) : atLeast(k.add(n), x);
    }
    return endKind == 1 ? atLeast(x, k.add(n)) : atLeast(x, k.subtract(n));
  }

  private List<Row> frame(Row r) {
    List<Row> frame = new ArrayList<>();
    for (Row s : partition(r)) {
      boolean excluded = exclude == 1 && s == r
          || exclude == 2 && peers(s, r)
          || exclude == 3 && peers(s, r) && s != r;
      if (startTest(s, r) && endTest(s, r) && !excluded) {
        frame.add(s);
      }
    }
    return frame;
  }

  private Long result(Row r, int func, int arg) {
    List<Row> partition = partition(r);
    if (func <= 2) {
      return ranking(r, func, partition);
    }
    if (func <= 4) {
      BigInteger target = func == 3 ? pos(r).subtract(big(arg)) : pos(r).add(big(arg));
      for (Row s : partition) {
        if (pos(s).equals(target)) {
          return value(s);
        }
      }
      return null;
    }
    return aggregate(frame(r), func);
  }

  private Long ranking(Row r, int func, List<Row> partition) {
    if (func == 0) {
      return pos(r).longValueExact() + 1;
    }
    long before = 0;
    Set<String> groups = new HashSet<>();
    for (Row s : partition) {
      if (keyBefore(s, r)) {
        before++;
        groups.add(String.valueOf(s.o));
      }
    }
    return 1L + (func == 1 ? before : groups.size());
  }

  private static Long aggregate(List<Row> frame, int func) {
    List<Integer> values = new ArrayList<>();
    BigInteger sum = BigInteger.ZERO;
    for (Row s : frame) {
      if (s.v != null) {
        values.add(s.v);
        sum = sum.add(big(s.v));
      }
    }
    values.sort(null);
    switch (func) {
      case 5:
        return frame.isEmpty() ? null : value(frame.get(0));
      case 6:
        return frame.isEmpty() ? null : value(frame.get(frame.size() - 1));
      case 7:
        return values.isEmpty() ? null : Long.valueOf(sum.longValueExact());
      case 8:
        return (long) values.size();
      case 9:
        return (long) frame.size();
      case 10:
        return values.isEmpty() ? null : Long.valueOf(values.get(0));
      default:
        return values.isEmpty() ? null : Long.valueOf(values.get(values.size() - 1));
    }
  }

  private static Long value(Row s) {
    return s.v == null ? null : Long.valueOf(s.v);
  }
}

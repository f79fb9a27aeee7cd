import java.lang.reflect.Constructor;
import java.lang.reflect.Field;
import java.lang.reflect.Member;
import java.lang.reflect.Method;
import java.lang.reflect.Modifier;
import java.util.Map;
import java.util.Set;
import java.util.TreeMap;
import java.util.TreeSet;

/** The public face and the constants: all that the document names, and no member besides that others can see. */
final class FaceTest {
  public static void main(String[] args) throws IllegalAccessException {
    Check.due("public final class", Modifier.isPublic(WindowFrames.class.getModifiers())
        && Modifier.isFinal(WindowFrames.class.getModifiers()), true);
    Check.same("public methods", methods().toString(), new TreeSet<>(Set.of(
        "int capacity()", "int rowCount()", "int addRow(int, int, int, int)", "void clear()",
        "boolean setOrder(int, int)", "boolean setMode(int, int)", "boolean setStart(int, int)",
        "boolean setEnd(int, int)", "boolean compute(int, int)", "long result(int)",
        "boolean resultIsNull(int)", "int rowAt(int)", "int rowField(int, int)", "int specField(int)")).toString());
    Check.same("constants", constants().toString(), dueConstants().toString());
    constructors();
    Check.due("nested classes", WindowFrames.class.getDeclaredClasses().length, 0);
    namesOfPrivateMethods();
    Check.finish();
  }

  private static Set<String> methods() {
    Set<String> found = new TreeSet<>();
    for (Method method : WindowFrames.class.getDeclaredMethods()) {
      if (isSeen(method)) {
        found.add(method.getReturnType() + " " + method.getName() + types(method.getParameterTypes()));
        Check.due(method + " is static", Modifier.isStatic(method.getModifiers()), false);
      }
    }
    return found;
  }

  private static String types(Class<?>[] types) {
    StringBuilder text = new StringBuilder("(");
    for (Class<?> type : types) {
      text.append(text.length() == 1 ? "" : ", ").append(type);
    }
    return text.append(')').toString();
  }

  private static boolean isSeen(Member member) {
    return !Modifier.isPrivate(member.getModifiers());
  }

  private static Map<String, Integer> constants() throws IllegalAccessException {
    Map<String, Integer> found = new TreeMap<>();
    for (Field field : WindowFrames.class.getDeclaredFields()) {
      if (isSeen(field)) {
        Check.due(field + " is public static final int", field.getType() == int.class
            && field.getModifiers() == (Modifier.PUBLIC | Modifier.STATIC | Modifier.FINAL), true);
        found.put(field.getName(), field.getInt(null));
      }
    }
    return found;
  }

  private static Map<String, Integer> dueConstants() {
    Map<String, Integer> due = new TreeMap<>();
    String[] groups = {
      "ORDER_NONE ORDER_ASC ORDER_DESC",
      "NULLS_LAST NULLS_FIRST",
      "MODE_ROWS MODE_RANGE",
      "EXCLUDE_NO_OTHERS EXCLUDE_CURRENT_ROW EXCLUDE_GROUP EXCLUDE_TIES",
      "BOUND_UNBOUNDED_PRECEDING BOUND_PRECEDING BOUND_CURRENT_ROW BOUND_FOLLOWING BOUND_UNBOUNDED_FOLLOWING",
      "FN_ROW_NUMBER FN_RANK FN_DENSE_RANK FN_LAG FN_LEAD FN_FIRST_VALUE FN_LAST_VALUE FN_SUM FN_COUNT"
          + " FN_COUNT_STAR FN_MIN FN_MAX",
      "FIELD_PART FIELD_ORD FIELD_VAL FIELD_MASK",
      "SPEC_DIRECTION SPEC_NULLS SPEC_MODE SPEC_EXCLUDE SPEC_START_KIND SPEC_START_OFFSET SPEC_END_KIND"
          + " SPEC_END_OFFSET SPEC_LAST_FUNC",
    };
    for (String group : groups) {
      int value = 0;
      for (String name : group.split(" ")) {
        due.put(name, value++);
      }
    }
    due.put("NULL_ORD", 1);
    due.put("NULL_VAL", 2);
    return due;
  }

  private static void constructors() {
    Constructor<?>[] constructors = WindowFrames.class.getDeclaredConstructors();
    Check.due("constructors", constructors.length, 1);
    Check.same("constructor", types(constructors[0].getParameterTypes()), "(int)");
    Check.due("the constructor is public", Modifier.isPublic(constructors[0].getModifiers()), true);
  }

  private static void namesOfPrivateMethods() {
    Set<String> seen = new TreeSet<>();
    for (Method method : WindowFrames.class.getDeclaredMethods()) {
      if (isSeen(method)) {
        seen.add(method.getName());
      }
    }
    for (Method method : WindowFrames.class.getDeclaredMethods()) {
      Check.due(method + " has a public one's name", !isSeen(method) && seen.contains(method.getName()), false);
    }
  }
}

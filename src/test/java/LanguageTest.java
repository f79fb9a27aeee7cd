import java.io.IOException;
import java.lang.reflect.Field;
import java.lang.reflect.Method;
import java.lang.reflect.Modifier;
import java.nio.file.Files;
import java.nio.file.Path;
import java.util.Map;
import java.util.Set;
import java.util.TreeMap;
import java.util.TreeSet;
import java.util.regex.Matcher;
import java.util.regex.Pattern;

/** The rules of LANGUAGE.md that can be read off the source's words; the one argument is its path. */
final class LanguageTest {
  public static void main(String[] args) throws IOException {
    String source = withoutComments(Files.readString(Path.of(args[0])));
    rule1NoPackage(source);
    rules2To6ForbiddenWords(source);
    rule4ArraysInFieldInitialisers(source);
    rules2And5Types();
    rule7NoDivision(source);
    rule8Loops(source);
    rule10NoCallInsideArguments(source);
    rule10Sizes(source);
    rules8And10CallDepth(source);
    Check.finish();
  }

  private static String withoutComments(String source) {
    return source.replaceAll("(?s)/\\*.*?\\*/", " ").replaceAll("//[^\n]*", " ");
  }

  private static void rule1NoPackage(String source) {
    absent(source, "\\bpackage\\b");
  }

  private static void rules2To6ForbiddenWords(String source) {
    String[] words = {
      "float", "double", "String", "Math", "Integer", "Long", "System", "Arrays", "Object", "import", "null",
      "throw", "throws", "try", "catch", "finally", "synchronized", "assert", "instanceof", "interface", "enum",
      "record", "protected", "var", "equals", "hashCode", "toString", "getClass", "notify", "wait", "clone",
    };
    for (String word : words) {
      absent(source, "\\b" + word + "\\b");
    }
    absent(source, "->");
    absent(source, "::");
    absent(source, "\"");
    absent(source, "\\.length\\b");
    absent(source, "\\[\\s*\\]\\s*\\[");
    absent(source, "\\bstatic\\s*\\{");
  }

  private static void absent(String source, String pattern) {
    Check.due("found " + pattern, Pattern.compile(pattern).matcher(source).find(), false);
  }

  private static void rule4ArraysInFieldInitialisers(String source) {
    for (String line : source.split("\n")) {
      if (line.matches(".*\\bnew\\b.*")) {
        Check.due("an array is made here: " + line.trim(),
            line.matches("  private final (int|long|boolean)\\[\\] \\w+ = new \\1\\[MAX_CAPACITY\\];"), true);
      }
    }
  }

  private static void rules2And5Types() {
    int fields = 0;
    for (Field field : WindowFrames.class.getDeclaredFields()) {
      Class<?> type = field.getType();
      if (Modifier.isStatic(field.getModifiers())) {
        Check.due(field + " is a constant", Modifier.isFinal(field.getModifiers())
            && (type == int.class || type == long.class), true);
      } else {
        fields++;
        Class<?> inner = type.isArray() ? type.getComponentType() : type;
        Check.due(field + " is of numbers", inner.isPrimitive(), true);
      }
    }
    Check.due("at most 40 fields", fields <= 40, true);
    for (Method method : WindowFrames.class.getDeclaredMethods()) {
      Check.due(method + " answers an array", method.getReturnType().isArray(), false);
      Check.due(method + " takes at most seven", method.getParameterCount() <= 7, true);
    }
  }

  /** The class has no need to divide. Whether each index holds is left to reading and to the other tests. */
  private static void rule7NoDivision(String source) {
    absent(source, "/");
    absent(source, "%");
  }

  /** One form of loop: a counter from 0 up to the rows or to one of them, set nowhere else. */
  private static void rule8Loops(String source) {
    absent(source, "\\b(while|do)\\b");
    for (String line : source.split("\n")) {
      if (line.matches(".*\\bfor\\b.*")) {
        Check.due("a counter against a bound: " + line.trim(),
            line.matches(" *for \\(int (row|other) = 0; \\1 < (count|row); \\1\\+\\+\\) \\{"), true);
      } else {
        Check.due("no counter is set here: " + line.trim(),
            line.matches(".*\\b(?<!int )(row|other)(\\+\\+|--| [-+*]?= ).*|.*(\\+\\+|--)(row|other)\\b.*"), false);
      }
    }
  }

  private static void rule10NoCallInsideArguments(String source) {
    Matcher call = Pattern.compile("\\b(?!(?:if|for|while|switch|return)\\b)[a-zA-Z]\\w*\\(").matcher(source);
    while (call.find()) {
      String arguments = upToClosing(source, call.end());
      Check.due("a call inside " + call.group() + arguments,
          Pattern.compile("\\b[a-zA-Z]\\w*\\(").matcher(arguments).find(), false);
    }
  }

  private static String upToClosing(String source, int from) {
    int depth = 1;
    int at = from;
    while (at < source.length() && depth > 0) {
      char c = source.charAt(at++);
      depth += c == '(' ? 1 : c == ')' ? -1 : 0;
    }
    return source.substring(from, at);
  }

  /** By the file's layout: a method begins at two spaces and ends with a brace at two spaces. */
  private static void rule10Sizes(String source) {
    int begun = -1;
    String[] lines = source.split("\n");
    for (int i = 0; i < lines.length; i++) {
      if (lines[i].matches("  (public|private).*\\{")) {
        begun = i;
      } else if (lines[i].equals("  }")) {
        Check.due("at most 60 lines: " + lines[begun].trim(), i - begun + 1 <= 60, true);
      }
    }
  }

  private static void rules8And10CallDepth(String source) {
    Map<String, Set<String>> calls = calls(source);
    for (String method : calls.keySet()) {
      Set<String> reached = Set.of(method);
      int depth = 0;
      // A chain longer than the number of methods has gone round: that is recursion.
      while (!reached.isEmpty() && depth <= calls.size()) {
        depth++;
        Set<String> next = new TreeSet<>();
        for (String caller : reached) {
          next.addAll(calls.get(caller));
        }
        reached = next;
      }
      Check.due(method + " goes at most six calls deep, not " + depth, depth <= 6, true);
    }
  }

  private static Map<String, Set<String>> calls(String source) {
    Map<String, Set<String>> calls = new TreeMap<>();
    for (Method method : WindowFrames.class.getDeclaredMethods()) {
      calls.put(method.getName(), new TreeSet<>());
    }
    String current = "";
    for (String line : source.split("\n")) {
      Matcher head = Pattern.compile("^  (?:public|private).*?(\\w+)\\(.*\\{").matcher(line);
      if (head.find()) {
        current = head.group(1);
        continue;
      }
      Matcher call = Pattern.compile("\\b(\\w+)\\(").matcher(line);
      while (call.find()) {
        if (calls.containsKey(call.group(1)) && calls.containsKey(current)) {
          calls.get(current).add(call.group(1));
        }
      }
    }
    return calls;
  }
}

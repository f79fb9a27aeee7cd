import java.io.IOException;
import java.lang.reflect.Field;
import java.lang.reflect.Method;
import java.lang.reflect.Modifier;
import java.nio.file.DirectoryStream;
import java.nio.file.Files;
import java.nio.file.Path;
import java.util.Arrays;
import java.util.regex.Matcher;
import java.util.regex.Pattern;

/** README.md: its example is run line by line, each answer against the word after "//", and nothing is left out. */
final class ReadmeTest {
  private static final Pattern MADE = Pattern.compile("WindowFrames w = new WindowFrames\\((\\d+)\\);\\s*// .*");
  private static final Pattern CALL = Pattern.compile("w\\.(\\w+)\\(([^()]*)\\);\\s*// ([-\\w]+)(:.*)?");

  public static void main(String[] args) throws IOException, ReflectiveOperationException {
    String readme = Files.readString(Path.of("README.md"));
    example(readme);
    everyMemberIsNamed(readme);
    everyTestIsNamed(readme);
    Check.finish();
  }

  private static void example(String readme) throws ReflectiveOperationException {
    Matcher block = Pattern.compile("(?s)```java\n(.*?)```").matcher(readme);
    Check.due("README.md has an example", block.find(), true);
    WindowFrames w = null;
    for (String line : block.group(1).split("\n")) {
      Matcher made = MADE.matcher(line);
      if (made.matches()) {
        w = new WindowFrames(Integer.parseInt(made.group(1)));
      } else if (!line.isBlank()) {
        answer(w, line);
      }
    }
  }

  private static void answer(WindowFrames w, String line) throws ReflectiveOperationException {
    Matcher call = CALL.matcher(line);
    boolean readable = call.matches();
    Check.due("can be read: " + line, readable, true);
    if (readable) {
      Object[] numbers = numbers(call.group(2));
      Class<?>[] types = new Class<?>[numbers.length];
      Arrays.fill(types, int.class);
      Object got = WindowFrames.class.getMethod(call.group(1), types).invoke(w, numbers);
      Check.same(line, String.valueOf(got), call.group(3));
    }
  }

  private static Object[] numbers(String arguments) throws ReflectiveOperationException {
    String[] words = arguments.split(", ");
    Object[] numbers = new Object[words.length];
    for (int i = 0; i < words.length; i++) {
      String constant = words[i].replaceFirst("^WindowFrames\\.", "");
      numbers[i] = constant.equals(words[i])
          ? Integer.valueOf(words[i])
          : WindowFrames.class.getField(constant).get(null);
    }
    return numbers;
  }

  private static void everyMemberIsNamed(String readme) {
    for (Method method : WindowFrames.class.getDeclaredMethods()) {
      if (Modifier.isPublic(method.getModifiers())) {
        named(readme, "`" + method.getName() + "(");
      }
    }
    for (Field field : WindowFrames.class.getFields()) {
      named(readme, "`" + field.getName() + "`");
    }
  }

  private static void everyTestIsNamed(String readme) throws IOException {
    try (DirectoryStream<Path> tests = Files.newDirectoryStream(Path.of("src/test/java"), "*Test.java")) {
      for (Path test : tests) {
        named(readme, "`" + test.getFileName().toString().replace(".java", "") + "`");
      }
    }
  }

  private static void named(String readme, String name) {
    Check.due("README.md names " + name, readme.contains(name), true);
  }
}

import java.lang.reflect.Method;
import java.lang.reflect.Modifier;
import java.nio.file.Files;
import java.nio.file.Path;
import java.util.HashMap;
import java.util.Map;
import java.util.regex.Matcher;
import java.util.regex.Pattern;

/** README.md: its example answers as it says, and it names every call of the face. */
public final class ReadmeTest {
  private static final Pattern CALL = Pattern.compile("x\\.(\\w+)\\((.*)\\); // (-?\\d+): .+");
  private static final String MADE = "SevenRings x = new SevenRings();";

  public static void main(String[] args) throws Exception {
    String text = Files.readString(Path.of("README.md"));
    Map<String, Method> face = face();
    example(text, face);
    for (String name : face.keySet()) Check.holds("README.md names " + name, text.contains("`" + name + "`"));
    Check.end();
  }

  private static Map<String, Method> face() {
    Map<String, Method> face = new HashMap<>();
    for (Method m : SevenRings.class.getDeclaredMethods()) {
      if (Modifier.isPublic(m.getModifiers())) face.put(m.getName(), m);
    }
    return face;
  }

  private static void example(String text, Map<String, Method> face) throws Exception {
    int from = text.indexOf("```java\n");
    int to = text.indexOf("```\n", from + 8);
    Check.holds("README.md has an example", from >= 0 && to > from);
    if (from < 0 || to < from) return;
    SevenRings x = new SevenRings();
    int calls = 0;
    for (String line : text.substring(from + 8, to).split("\n")) {
      if (line.equals(MADE)) continue;
      Matcher call = CALL.matcher(line);
      boolean plain = call.matches() && face.containsKey(call.group(1));
      Check.holds("a call with its answer: " + line, plain);
      if (!plain) continue;
      Object got = face.get(call.group(1)).invoke(x, numbers(call.group(2), face.get(call.group(1))));
      Check.due(line, ((Number) got).longValue(), Long.parseLong(call.group(3)));
      calls++;
    }
    Check.holds("the example has calls", calls > 0);
  }

  private static Object[] numbers(String text, Method method) {
    String[] parts = text.isEmpty() ? new String[0] : text.split(", ");
    Class<?>[] types = method.getParameterTypes();
    Object[] numbers = new Object[parts.length];
    for (int i = 0; i < parts.length; i++) {
      long v = Long.decode(parts[i].replaceAll("L$", ""));
      // What has too many numbers is refused by invoke itself.
      if (i < types.length && types[i] == long.class) numbers[i] = v;
      else numbers[i] = (int) v;
    }
    return numbers;
  }
}

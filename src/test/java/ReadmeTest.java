import java.lang.reflect.Method;
import java.nio.file.Files;
import java.nio.file.Path;
import java.util.regex.Matcher;
import java.util.regex.Pattern;

/** What README.md says that the calls of its example answer. */
public final class ReadmeTest {
  private static final Pattern CALL = Pattern.compile("x\\.(\\w+)\\((.*?)\\); +// (-?\\d+)\\b.*");
  private static final Pattern TOLD = Pattern.compile("tell\\(x, \"(.*)\"\\); // (-?\\d+)\\b.*");

  public static void main(String[] args) throws Exception {
    RingSign x = new RingSign();
    int answers = 0;
    for (String line : Files.readAllLines(Path.of("README.md"))) {
      Matcher told = TOLD.matcher(line);
      Matcher call = CALL.matcher(line);
      if (told.matches()) {
        Check.due(line, Check.tell(x, told.group(1)), Long.parseLong(told.group(2)));
        answers++;
      } else if (call.matches()) {
        Check.due(line, answer(x, call.group(1), call.group(2)), Long.parseLong(call.group(3)));
        answers++;
      } else {
        Check.that("a call that tells no answer: " + line, !line.startsWith("x.") && !line.startsWith("tell("));
      }
    }
    Check.that("an example", answers > 25);
    Check.end();
  }

  private static long answer(RingSign x, String name, String list) throws Exception {
    String[] given = list.isEmpty() ? new String[0] : list.split(", ");
    for (Method m : RingSign.class.getMethods()) {
      if (m.getName().equals(name) && m.getParameterCount() == given.length) {
        Object[] numbers = new Object[given.length];
        for (int i = 0; i < given.length; i++) {
          numbers[i] = m.getParameterTypes()[i] == long.class ? (Object) Long.valueOf(given[i]) : (Object) Integer.valueOf(given[i]);
        }
        return ((Number) m.invoke(x, numbers)).longValue();
      }
    }
    throw new IllegalStateException("no such call: " + name);
  }
}

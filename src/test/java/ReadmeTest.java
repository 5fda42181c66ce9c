import java.lang.reflect.Method;
import java.lang.reflect.Modifier;
import java.nio.file.Files;
import java.nio.file.Path;
import java.util.Set;
import java.util.TreeSet;
import java.util.regex.Matcher;
import java.util.regex.Pattern;

/** Each example of README.md answers as README.md says, and each call of the class stands there. */
public final class ReadmeTest {
  private static final Pattern BEGIN = Pattern.compile("CoarseSteps x = new CoarseSteps\\(\\);");
  private static final Pattern CALL = Pattern.compile(
      "x\\.(\\w+)\\(([^)]*)\\); +// (true|false|NONE|REFUSED|-?\\d+)(:.*)?");

  private final Set<String> shown = new TreeSet<>();
  private CoarseSteps x;

  public static void main(String[] args) throws Exception {
    String text = Files.readString(Path.of("README.md"));
    ReadmeTest test = new ReadmeTest();
    test.runExamples(text);
    test.eachCallStands(text);
    Check.end();
  }

  private void runExamples(String text) throws Exception {
    Check.heading("an example of README.md");
    boolean isInside = false;
    int number = 0;
    for (String line : text.split("\n")) {
      number++;
      if (line.startsWith("```")) {
        isInside = line.equals("```java");
        x = null;
      } else if (isInside && !line.isBlank()) {
        runLine("line " + number + ", " + line, line);
      }
    }
    Check.no("the last example has no end", isInside);
  }

  private void runLine(String where, String line) throws Exception {
    Matcher call = CALL.matcher(line);
    if (BEGIN.matcher(line).matches()) {
      x = new CoarseSteps();
    } else if (x != null && call.matches()) {
      Check.same(where, written(call.group(3)), ask(call.group(1), call.group(2)));
    } else {
      Check.yes(where + ": is read as an example", false);
    }
  }

  private String ask(String name, String told) throws Exception {
    String[] words = told.isEmpty() ? new String[0] : told.split(", ");
    for (Method method : CoarseSteps.class.getMethods()) {
      if (method.getName().equals(name) && method.getParameterCount() == words.length) {
        shown.add(name);
        return String.valueOf(method.invoke(x, numbersIn(words, method.getParameterTypes())));
      }
    }
    return "nothing: there is no such call";
  }

  private static Object[] numbersIn(String[] words, Class<?>[] types) {
    Object[] numbers = new Object[words.length];
    for (int k = 0; k < words.length; k++) {
      if (types[k] == long.class) {
        numbers[k] = Long.valueOf(words[k].replaceAll("L$", ""));
      } else {
        numbers[k] = Integer.valueOf(words[k]);
      }
    }
    return numbers;
  }

  private static String written(String answer) {
    switch (answer) {
      case "NONE":
        return String.valueOf(CoarseSteps.NONE);
      case "REFUSED":
        return String.valueOf(CoarseSteps.REFUSED);
      default:
        return answer;
    }
  }

  private void eachCallStands(String text) {
    for (Method method : CoarseSteps.class.getDeclaredMethods()) {
      if (Modifier.isPublic(method.getModifiers())) {
        String name = method.getName();
        Check.heading("README.md tells each call");
        Check.same("- `" + name + "(..)`", method.getParameterCount(), toldParameters(text, name));
        Check.heading("README.md shows each call");
        Check.yes(name + " stands in an example", shown.contains(name));
      }
    }
  }

  /** How many parameters README.md tells of a call; -1 if it does not tell the call. */
  private static int toldParameters(String text, String name) {
    Matcher told = Pattern.compile("(?m)^- `" + name + "\\(([^)]*)\\)`: ").matcher(text);
    if (!told.find()) {
      return -1;
    }
    return told.group(1).isEmpty() ? 0 : told.group(1).split(", ").length;
  }
}

import java.io.IOException;
import java.lang.reflect.Method;
import java.lang.reflect.Modifier;
import java.nio.file.Files;
import java.nio.file.Path;
import java.util.ArrayList;
import java.util.List;
import java.util.regex.Matcher;
import java.util.regex.Pattern;

/** README.md: it names each call, and each call of its example answers as the page says. */
public final class ReadmeTest {
  private static final Pattern TEXT = Pattern.compile("(port|rule) \"([^\"]*)\" = (-?\\d+)(?: +.*)?");
  private static final Pattern CALL = Pattern.compile("([a-z]+(?: -?\\w+)*) = (-?\\w+)(?: +.*)?");

  private ReadmeTest() {
  }

  public static void main(String[] args) throws IOException {
    List<String> lines = Files.readAllLines(page());
    names(String.join("\n", lines));
    List<String> rows = example(lines);
    Check.same("an example in README.md", rows.size() > 20, true);
    Calls calls = Calls.fresh("README.md");
    for (String row : rows) {
      ask(calls, row);
    }
    Check.end("ReadmeTest");
  }

  private static Path page() {
    String told = System.getenv("HARBOURFOG_README");
    return Path.of(told == null ? "README.md" : told);
  }

  private static void names(String page) {
    for (Method method : HarbourFog.class.getDeclaredMethods()) {
      if (Modifier.isPublic(method.getModifiers())) {
        String name = "`" + method.getName() + "`";
        Check.same("README.md tells of " + name, page.contains(name), true);
      }
    }
  }

  /** The lines between ```calls and the next ```. */
  private static List<String> example(List<String> lines) {
    int from = lines.indexOf("```calls") + 1;
    List<String> rows = new ArrayList<>();
    for (int i = from; from > 0 && i < lines.size() && !lines.get(i).equals("```"); i++) {
      rows.add(lines.get(i));
    }
    return rows;
  }

  private static void ask(Calls calls, String row) {
    Matcher text = TEXT.matcher(row);
    Matcher call = CALL.matcher(row);
    if (text.matches()) {
      calls.feed(text.group(2));
      calls.due(text.group(1) + " " + text.group(2).length() + " = " + text.group(3));
    } else if (call.matches()) {
      calls.due(call.group(1) + " = " + call.group(2));
    } else {
      Check.same("a row of README.md", row, "a call with its answer");
    }
  }
}

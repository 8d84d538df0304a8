import java.lang.reflect.InvocationTargetException;
import java.lang.reflect.Method;
import java.lang.reflect.Modifier;
import java.util.HashMap;
import java.util.Map;

/**
 * Calls on one object, told as rows "name arguments = answer". An answer "cell", "none" or "bad" is the refusal by
 * IndexOutOfBoundsException, NoSuchElementException or IllegalArgumentException; MIN and MAX are the ends of int.
 */
final class Calls {
  private static final Map<String, Method> FACE = face();

  private final String title;
  private final HarbourFog fog = new HarbourFog();

  private Calls(String title) {
    this.title = title;
  }

  private static Map<String, Method> face() {
    Map<String, Method> methods = new HashMap<>();
    for (Method method : HarbourFog.class.getDeclaredMethods()) {
      if (Modifier.isPublic(method.getModifiers())) {
        methods.put(method.getName(), method);
      }
    }
    return methods;
  }

  /** Calls on a new object; the title says what the document asks. */
  static Calls fresh(String title) {
    return new Calls(title);
  }

  /** Calls on a new object with a PORT that has no FAULT. */
  static Calls at(String title, String port) {
    Calls calls = new Calls(title);
    Check.feed(calls.fog, port);
    Check.same(title + ": a port without a fault", calls.fog.port(port.length()) >= 0, true);
    return calls;
  }

  Calls due(String... rows) {
    for (String row : rows) {
      int at = row.indexOf(" = ");
      String call = row.substring(0, at);
      Check.same(title + ": " + call, answer(call), row.substring(at + 3));
    }
    return this;
  }

  /** The text goes on the TAPE, and is the PORT, or has a FAULT. */
  Calls port(int due, String text) {
    Check.feed(fog, text);
    return due("port " + text.length() + " = " + due);
  }

  /** The text goes on the TAPE, and is the RULE, or has a FAULT. */
  Calls rule(int due, String text) {
    Check.feed(fog, text);
    return due("rule " + text.length() + " = " + due);
  }

  Calls feed(String text) {
    Check.feed(fog, text);
    return this;
  }

  String answer(String call) {
    String[] words = call.trim().split(" +");
    Method method = FACE.get(words[0]);
    Object[] args = new Object[words.length - 1];
    for (int i = 0; i < args.length; i++) {
      args[i] = argument(words[i + 1], method.getParameterTypes()[i]);
    }
    try {
      return String.valueOf(method.invoke(fog, args));
    } catch (InvocationTargetException e) {
      return refusal(e.getCause());
    } catch (IllegalAccessException e) {
      throw new IllegalStateException(e);
    }
  }

  private static Object argument(String word, Class<?> type) {
    if (type == boolean.class) {
      return Boolean.valueOf(word);
    }
    switch (word) {
      case "MIN": return Integer.MIN_VALUE;
      case "MAX": return Integer.MAX_VALUE;
      default: return Integer.valueOf(word);
    }
  }

  private static String refusal(Throwable thrown) {
    switch (thrown.getClass().getName()) {
      case "java.lang.IndexOutOfBoundsException": return "cell";
      case "java.util.NoSuchElementException": return "none";
      case "java.lang.IllegalArgumentException": return "bad";
      default: return thrown.toString();
    }
  }
}

import java.util.concurrent.Callable;

/** What the tests share: texts for the tape, answers that are compared, and the end of a test. */
final class Check {
  private static int wrong = 0;
  private static int asked = 0;

  private Check() {
  }

  static void same(String call, Object got, Object due) {
    asked++;
    if (!got.equals(due)) {
      wrong++;
      System.out.println(call + " answered " + got + ", due is " + due);
    }
  }

  static void is(String call, int due, Callable<?> got) {
    same(call, answer(got), String.valueOf(due));
  }

  static void is(String call, boolean due, Callable<?> got) {
    same(call, answer(got), String.valueOf(due));
  }

  static void cell(String call, Callable<?> got) {
    same(call, answer(got), "throws.IndexOutOfBoundsException");
  }

  static void none(String call, Callable<?> got) {
    same(call, answer(got), "throws.NoSuchElementException");
  }

  static void bad(String call, Callable<?> got) {
    same(call, answer(got), "throws.IllegalArgumentException");
  }

  static String answer(Callable<?> call) {
    try {
      return String.valueOf(call.call());
    } catch (Exception e) {
      return "throws." + e.getClass().getSimpleName();
    }
  }

  /** Puts a text on the tape, twenty bytes a call. */
  static void feed(HarbourFog fog, String text) {
    for (int i = 0; i < text.length(); i += 20) {
      fog.feed(four(text, i), four(text, i + 4), four(text, i + 8), four(text, i + 12), four(text, i + 16));
    }
  }

  static int four(String text, int at) {
    int number = 0;
    for (int i = at; i < at + 4; i++) {
      number = number << 8 | (i < text.length() ? text.charAt(i) & 255 : 0);
    }
    return number;
  }

  static int port(HarbourFog fog, String text) {
    feed(fog, text);
    return fog.port(text.length());
  }

  static int rule(HarbourFog fog, String text) {
    feed(fog, text);
    return fog.rule(text.length());
  }

  /** A new object with a port that has no fault. */
  static HarbourFog at(String text) {
    HarbourFog fog = new HarbourFog();
    int lots = port(fog, text);
    if (lots < 0) {
      same("port of " + text, lots + " at " + fog.fault(), "no fault");
    }
    return fog;
  }

  static void end(String test) {
    System.out.println(test + ": " + asked + " answers looked at, " + wrong + " wrong");
    if (wrong != 0) {
      System.exit(1);
    }
  }
}

import java.lang.reflect.InvocationTargetException;
import java.lang.reflect.Method;
import java.util.HashMap;
import java.util.Map;
import java.util.TreeMap;

/** Long runs of calls, each asked of the class and of the model; the argument tells how many runs. */
public final class ModelTest {
  /** The calls with what their arguments are; see the method "draw". */
  private static final String[] CALLS = {
    "told w9", "fault", "fog xyn", "sums nw3", "set xyY", "led ls", "whose xy", "line xyxys", "where as",
    "sees aas", "often aa", "seen as", "could xys", "buy aw1", "way ccsd", "lot ow2", "yards on",
    "leaks oow1", "net o", "bid obp", "gets is w2", "sold osw1", "when ow1", "ship h", "worthless om",
    "gauge xysG", "right", "found w2", "clear", "doubt xysSq", "span aSqMw1", "let isw1", "ruled isw1",
    "brings osw2", "clock osw2", "enough aYSqM", "sure akSqM", "start aw1", "meet aa", "witnesses xysub",
    "guards", "light hrw1", "asked osw1w1", "calm s", "thick n", "hid a", "image", "restore", "status w2",
    "count w1", "bid obp", "bid obp", "bid obp", "bid obp", "gauge xysG", "gauge xysG", "set xyY", "fog xys",
    "sums nw3", "ruled isw1", "brings osw2", "gets is w2", "let isw1", "sees aas", "often aa", "meet aa",
  };
  private static final Map<String, Method> REAL = byName(HarbourFog.class);
  private static final Map<String, Method> MODEL = byName(Model.class);

  private final Texts texts;
  private final HarbourFog fog = new HarbourFog();
  private final Model model = new Model();
  private final StringBuilder told = new StringBuilder();
  private final Map<String, Integer> answers = new TreeMap<>();

  private ModelTest(long seed) {
    texts = new Texts(seed);
  }

  private static Map<String, Method> byName(Class<?> face) {
    Map<String, Method> methods = new HashMap<>();
    for (Method method : face.getDeclaredMethods()) {
      if (java.lang.reflect.Modifier.isPublic(method.getModifiers())) {
        methods.put(method.getName(), method);
      }
    }
    return methods;
  }

  public static void main(String[] args) {
    int runs = args.length > 0 ? Integer.parseInt(args[0]) : 60;
    int from = args.length > 1 ? Integer.parseInt(args[1]) : 1;
    Map<String, Integer> all = new TreeMap<>();
    for (int i = from; i < from + runs; i++) {
      ModelTest test = new ModelTest(i);
      test.run(i);
      test.answers.forEach((name, n) -> all.merge(name, n, Integer::sum));
      ModelTest duels = new ModelTest(1000000L + i);
      duels.seek(i);
      duels.answers.forEach((name, n) -> all.merge(name, n, Integer::sum));
    }
    if (args.length > 2) {
      System.out.println(all);
    }
    Check.end("ModelTest");
  }

  private int below(int n) {
    return texts.below(n);
  }

  private void run(int number) {
    told.append("run ").append(number).append('\n');
    int calls = 0;
    while (calls < 480) {
      int kind = below(60);
      if (calls == 0 || kind == 0) {
        calls += tape(texts.port(), "port");
      } else if (kind == 1) {
        calls += tape(texts.rule(), "rule");
      } else {
        String[] call = CALLS[below(CALLS.length)].split(" ", 2);
        // a duel is sought in every step and cell, by the model without any thought for speed
        if (call[0].equals("found") && below(4) > 0 || call[0].equals("clear") && below(6) > 0) {
          continue;
        }
        if (below(3) == 0) {
          ask("set", "xyY");
        }
        ask(call[0], call.length > 1 ? call[1].replace(" ", "") : "");
        calls++;
      }
    }
  }

  /** Small ports with GAUGES that tell of a duel, and what is found by them. */
  private void seek(int number) {
    told.append("duels ").append(number).append('\n');
    do {
      tape(texts.port(), "port");
    } while (model.told(0) * model.told(1) > 20 || model.sums(2, 0) == 0);
    for (int i = 0; i < 4; i++) {
      compare("clear", new Object[0]);
      int duelStep = below(4);
      int[] duel = {below(model.told(0)), below(model.told(1))};
      for (int tries = 0; tries < 9 && model.fog(duel[0], duel[1], duelStep) == 0; tries++) {
        duelStep = below(4);
        duel = new int[] {below(model.told(0)), below(model.told(1))};
      }
      int gauges = 1 + below(5);
      for (int j = 0; j < gauges; j++) {
        int x = below(model.told(0));
        int y = below(model.told(1));
        int step = below(4) == 0 ? below(4) : Math.min(39, duelStep + below(8));
        int yards = model.duelled(duelStep, duel[0], duel[1], x, y, step);
        compare("gauge", new Object[] {x, y, step, below(25) == 0 ? below(100) : yards});
      }
      compare("found", new Object[] {below(3)});
      compare("found", new Object[] {below(3)});
      compare("right", new Object[0]);
      if (below(2) == 0) {
        compare("set", new Object[] {below(model.told(0)), below(model.told(1)), below(30)});
        compare("found", new Object[] {below(3)});
      }
    }
  }

  private int tape(String text, String name) {
    int calls = 0;
    for (int i = 0; i < text.length(); i += 20) {
      Object[] five = new Object[5];
      for (int j = 0; j < 5; j++) {
        five[j] = Check.four(text, i + 4 * j);
      }
      compare("feed", five);
      calls++;
    }
    told.append("  ").append(text).append('\n');
    int n = below(40) == 0 ? below(700) - 20 : text.length();
    compare(name, new Object[] {n});
    compare("fault", new Object[0]);
    return calls + 2;
  }

  private void ask(String name, String kinds) {
    Object[] args = new Object[MODEL.get(name).getParameterCount()];
    int at = 0;
    for (int i = 0; i < args.length; i++) {
      char kind = kinds.charAt(at++);
      if (kind == 'w') {
        int most = kinds.charAt(at++) - '0';
        args[i] = below(30) == 0 ? below(2) == 0 ? -1 : most + 1 : below(most + 1);
      } else if (kind == 'b' && name.equals("witnesses")) {
        args[i] = below(2) == 0;
      } else {
        args[i] = draw(kind);
      }
    }
    if (name.equals("gauge") && below(5) > 0) {
      tellRight(args);
    }
    compare(name, args);
  }

  /** Most GAUGES tell what stands there, or would after a duel: else none would ever be right. */
  private void tellRight(Object[] args) {
    int x = (Integer) args[0];
    int y = (Integer) args[1];
    int step = (Integer) args[2];
    if (x >= 0 && y >= 0 && x < model.told(0) && y < model.told(1) && step >= 0 && step < 40) {
      args[3] = below(6) == 0 ? 0 : model.fog(x, y, step);
    }
  }

  /** A number of a kind: mostly one that is there, at times one beside. */
  private int draw(char kind) {
    boolean beside = below(25) == 0;
    switch (kind) {
      case 'x': return beside ? below(12) - 1 : below(texts.wide);
      case 'y': return beside ? below(12) - 1 : below(texts.high);
      case 'c': return beside ? below(120) - 10 : below(texts.wide) + 10 * below(texts.high);
      case 's': return beside ? below(2) == 0 ? -1 : 40 : below(below(2) == 0 ? 6 : 40);
      case 'u': return beside ? below(2) == 0 ? -1 : 40 : 20 + below(20);
      case 'n': return beside ? below(2) == 0 ? -2 : 40 : below(below(2) == 0 ? 6 : 41) - 1;
      case 'd': return beside ? below(2) == 0 ? -1 : 13 : below(13);
      case 'a': return beside ? below(6) - 1 : below(Math.max(1, model.told(4)));
      case 'o': return beside ? below(8) - 1 : below(Math.max(1, model.told(3)));
      case 'l': return beside ? below(8) - 1 : below(Math.max(1, model.told(2)));
      case 'h': return beside ? below(6) - 1 : below(Math.max(1, model.told(6)));
      case 'i': return beside ? below(14) - 1 : below(Math.max(1, model.told(8)));
      case 'Y': return beside ? below(2) == 0 ? -1 : 100 : below(100);
      case 'G': return beside ? below(2) == 0 ? -1 : 100 : below(3) == 0 ? 0 : below(20);
      case 'b': return beside ? below(2) == 0 ? 0 : 1000 : 1 + below(below(2) == 0 ? 60 : 999);
      case 'p': return beside ? below(2) == 0 ? 0 : 100 : 1 + below(below(2) == 0 ? 12 : 99);
      case 'm': return beside ? below(2) == 0 ? 0 : 1000 : 1 + below(below(2) == 0 ? 60 : 999);
      case 'S': return below(2) == 0 ? below(100) : texts.any();
      case 'q': return beside ? below(2) == 0 ? -1 : 9 : below(9);
      case 'M': return beside ? below(2) == 0 ? 0 : 41 : 1 + below(below(6) == 0 ? 40 : 8);
      case 'k': return beside ? below(42) : 1 + below(4);
      case 'r': return beside ? below(2) == 0 ? 0 : 21 : 1 + below(20);
      default: throw new IllegalStateException("no such kind: " + kind);
    }
  }

  private void compare(String name, Object[] args) {
    String call = name + java.util.Arrays.toString(args);
    String due = call(MODEL.get(name), model, args);
    String got = call(REAL.get(name), fog, args);
    answers.merge(name + (due.startsWith("throws") ? " " + due : ""), 1, Integer::sum);
    told.append(call).append(" => ").append(due).append('\n');
    if (!due.equals(got)) {
      System.out.println(told);
    }
    Check.same(call, got, due);
    if (!due.equals(got)) {
      Check.end("ModelTest");
    }
  }

  private static String call(Method method, Object on, Object[] args) {
    try {
      return String.valueOf(method.invoke(on, args));
    } catch (InvocationTargetException e) {
      return "throws." + e.getCause().getClass().getSimpleName();
    } catch (IllegalAccessException e) {
      throw new IllegalStateException(e);
    }
  }
}

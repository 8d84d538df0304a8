import java.lang.reflect.Constructor;
import java.lang.reflect.Field;
import java.lang.reflect.Member;
import java.lang.reflect.Method;
import java.lang.reflect.Modifier;
import java.nio.file.Files;
import java.nio.file.Path;
import java.util.ArrayList;
import java.util.Arrays;
import java.util.HashSet;
import java.util.List;
import java.util.Set;
import java.util.TreeSet;
import java.util.regex.Matcher;
import java.util.regex.Pattern;

/** The public face, the rules of LANGUAGE.md that can be seen from outside, and what a call takes of the room. */
public final class FaceTest {
  private static final String CELL = " throws IndexOutOfBoundsException, IllegalArgumentException";
  private static final String NONE = " throws NoSuchElementException, IllegalArgumentException";
  private static final String BAD = " throws IllegalArgumentException";
  private static final String[] FACE = {
    "int feed(int, int, int, int, int)",
    "int port(int)" + BAD,
    "int fault()",
    "int told(int)" + BAD,
    "int fog(int, int, int)" + CELL,
    "int sums(int, int)" + BAD,
    "int set(int, int, int)" + CELL,
    "int led(int, int)" + NONE,
    "int whose(int, int) throws IndexOutOfBoundsException",
    "int line(int, int, int, int, int)" + CELL,
    "int where(int, int)" + NONE,
    "boolean sees(int, int, int)" + NONE,
    "int often(int, int)" + NONE,
    "int seen(int, int)" + NONE,
    "int could(int, int, int)" + CELL,
    "int buy(int, int)" + NONE,
    "int way(int, int, int, int)" + CELL,
    "int lot(int, int)" + NONE,
    "int yards(int, int)" + NONE,
    "int leaks(int, int, int)" + NONE,
    "int net(int) throws NoSuchElementException",
    "int bid(int, int, int)" + NONE,
    "int gets(int, int, int)" + BAD,
    "int sold(int, int, int)" + NONE,
    "int when(int, int)" + NONE,
    "int ship(int) throws NoSuchElementException",
    "int worthless(int, int)" + NONE,
    "int gauge(int, int, int, int)" + CELL,
    "boolean right()",
    "int found(int)" + BAD,
    "int clear()",
    "int doubt(int, int, int, int, int)" + CELL,
    "int span(int, int, int, int, int)" + NONE,
    "int rule(int)" + BAD,
    "int let(int, int, int)" + NONE,
    "int ruled(int, int, int)" + NONE,
    "int brings(int, int, int)" + NONE,
    "int clock(int, int, int)" + NONE,
    "int enough(int, int, int, int, int)" + NONE,
    "int sure(int, int, int, int, int)" + NONE,
    "int start(int, int)" + NONE,
    "int meet(int, int)" + NONE,
    "int witnesses(int, int, int, int, boolean)" + CELL,
    "int guards()",
    "int light(int, int, int)" + NONE,
    "int asked(int, int, int, int)" + NONE,
    "int calm(int)" + BAD,
    "int thick(int)" + BAD,
    "int hid(int) throws NoSuchElementException",
    "int image()",
    "int restore()",
    "int status(int)",
    "int count(int)",
  };

  private FaceTest() {
  }

  public static void main(String[] args) throws Exception {
    face();
    classes();
    String source = System.getenv("HARBOURFOG_SOURCE");
    source(Files.readString(Path.of(source == null ? "src/main/java/HarbourFog.java" : source)));
    room();
    Check.end("FaceTest");
  }

  private static boolean isSeen(Member member) {
    return !Modifier.isPrivate(member.getModifiers()) && !member.isSynthetic();
  }

  private static void face() throws Exception {
    int modifiers = HarbourFog.class.getModifiers();
    Check.same("public, final", Modifier.isPublic(modifiers) && Modifier.isFinal(modifiers), true);
    Set<String> got = new TreeSet<>();
    for (Method method : HarbourFog.class.getDeclaredMethods()) {
      if (isSeen(method)) {
        Check.same(method + " is of an object", Modifier.isStatic(method.getModifiers()), false);
        got.add(described(method));
      }
    }
    Check.same("the methods", got, new TreeSet<>(Arrays.asList(FACE)));
    List<String> fields = new ArrayList<>();
    for (Field field : HarbourFog.class.getDeclaredFields()) {
      if (isSeen(field)) {
        fields.add(field.toString());
      }
    }
    Check.same("the constants", fields, List.of("public static final int HarbourFog.NONE"));
    Constructor<?>[] constructors = HarbourFog.class.getDeclaredConstructors();
    Check.same("one constructor", constructors.length, 1);
    Check.same("it is public", constructors[0].toString(), "public HarbourFog()");
  }

  private static String described(Method method) {
    String types = method.toString().replaceAll("^public (?:final )?", "").replace("HarbourFog.", "");
    return types.replace("java.lang.", "").replace("java.util.", "").replaceAll(",(?! )", ", ");
  }

  private static void classes() {
    Set<String> open = new HashSet<>();
    for (String call : FACE) {
      open.add(call.replaceAll("\\(.*", "").replaceAll(".* ", ""));
    }
    List<Class<?>> all = new ArrayList<>(List.of(HarbourFog.class));
    all.addAll(Arrays.asList(HarbourFog.class.getDeclaredClasses()));
    Check.same("at most twelve classes: " + all.size(), all.size() <= 12, true);
    for (Class<?> one : all) {
      int fields = 0;
      for (Field field : one.getDeclaredFields()) {
        fields += Modifier.isStatic(field.getModifiers()) ? 0 : 1;
      }
      Check.same("at most twenty fields in " + one + ": " + fields, fields <= 20, true);
      for (Method method : one.getDeclaredMethods()) {
        Check.same("at most seven parameters of " + method, method.getParameterCount() <= 7, true);
        boolean named = one == HarbourFog.class && isSeen(method);
        Check.same("no other bears the name of " + method, named || !open.contains(method.getName()), true);
      }
      if (one != HarbourFog.class) {
        int modifiers = one.getModifiers();
        Check.same(one + " is static", Modifier.isStatic(modifiers), true);
        Check.same(one + " is not public", Modifier.isPublic(modifiers) || Modifier.isProtected(modifiers), false);
      }
    }
  }

  private static void source(String source) {
    String code = source.replaceAll("(?s)/\\*.*?\\*/", "").replaceAll("//[^\\n]*", "");
    Set<String> imports = new TreeSet<>();
    Matcher matcher = Pattern.compile("(?m)^import (.*);").matcher(code);
    while (matcher.find()) {
      imports.add(matcher.group(1));
    }
    Check.same("imports", imports, new TreeSet<>(List.of("java.util.Arrays", "java.util.NoSuchElementException")));
    for (String never : new String[] {"\\bcatch\\b", "\\btry\\b", "\\bfinally\\b", "->", "::", "\\bsynchronized\\b",
        "\\bassert\\b", "\\bpackage\\b", "\\bfloat\\b", "\\bdouble\\b", "Exact\\b", "\\bnative\\b", "\" *\\+", "\\+ *\""}) {
      Check.same("no " + never, Pattern.compile(never).matcher(code).find(), false);
    }
    matcher = Pattern.compile("throw [^;]*;").matcher(code);
    while (matcher.find()) {
      boolean known = matcher.group().matches(
          "throw new (IndexOutOfBounds|NoSuchElement|IllegalArgument)Exception\\(\\);");
      Check.same("throws as rule 6 tells: " + matcher.group(), known, true);
    }
    matcher = Pattern.compile("\\.(\\w+)\\(").matcher(code.replaceAll("(?s)HarbourFog\\.", ""));
    while (matcher.find()) {
      Check.same("no call of " + matcher.group(1), matcher.group(1).matches("toString|hashCode|equals|getClass"), false);
    }
    lengths(source.split("\n"));
  }

  private static void lengths(String[] lines) {
    int from = 0;
    for (int i = 0; i < lines.length; i++) {
      Check.same("signs of line " + (i + 1), lines[i].chars().allMatch(c -> c >= 32 && c < 127), true);
      Check.same("length of line " + (i + 1), lines[i].length() <= 120, true);
      if (lines[i].matches(" {2}(?: {2})?\\S.*\\{")) {
        from = i;
      }
      if (lines[i].matches(" {2}(?: {2})?}") && lines[from].contains("(")) {
        Check.same("the method up to line " + (i + 1) + " is short", i - from < 60, true);
      }
    }
  }

  /** A call that is not refused takes nothing of the room. */
  private static void room() {
    com.sun.management.ThreadMXBean beans =
        (com.sun.management.ThreadMXBean) java.lang.management.ManagementFactory.getThreadMXBean();
    String port = "port 9 9;fog 0 0 8 8 40;wind 0 2 1 3;thin 3 1;lamp 4 4 3;steamer 2 3 3;lot 0 0 2 2 1 2;"
        + "lot 3 0 5 2 3 4;walk 0 0 0 eeee;walk 4 4 0 nnnn;watch 8 8;watch 0 8;ship 3 9;";
    String rule = "allow price>2;first wants-price;pay floor+left/9;most there/2;";
    int[] portBytes = numbers(port);
    int[] ruleBytes = numbers(rule);
    HarbourFog fog = new HarbourFog();
    spend(fog, portBytes, port.length(), ruleBytes, rule.length());
    long id = Thread.currentThread().getId();
    beans.getThreadAllocatedBytes(id);
    long before = beans.getThreadAllocatedBytes(id);
    spend(fog, portBytes, port.length(), ruleBytes, rule.length());
    long took = beans.getThreadAllocatedBytes(id) - before;
    Check.same("no call makes an object, bytes " + took, took < 1000, true);
  }

  private static int[] numbers(String text) {
    int[] numbers = new int[(text.length() + 19) / 20 * 5];
    for (int i = 0; i < numbers.length; i++) {
      numbers[i] = Check.four(text, 4 * i);
    }
    return numbers;
  }

  private static void tape(HarbourFog fog, int[] numbers) {
    for (int i = 0; i < numbers.length; i += 5) {
      fog.feed(numbers[i], numbers[i + 1], numbers[i + 2], numbers[i + 3], numbers[i + 4]);
    }
  }

  private static void spend(HarbourFog fog, int[] port, int portBytes, int[] rule, int ruleBytes) {
    tape(fog, port);
    fog.port(portBytes);
    tape(fog, rule);
    fog.rule(ruleBytes);
    for (int i = 0; i < 10; i++) {
      fog.bid(i % 2, 20 + i, 3 + i % 4);
    }
    fog.image();
    fog.set(0, 0, 50);
    fog.gauge(1, 1, 5, fog.fog(1, 1, 5));
    fog.gauge(8, 8, 9, fog.fog(8, 8, 9));
    fog.found(0);
    fog.right();
    fog.sums(39, 0);
    fog.led(0, 39);
    fog.whose(4, 4);
    fog.line(0, 0, 8, 8, 3);
    fog.often(0, 1);
    fog.seen(0, 1);
    fog.could(3, 3, 1);
    fog.buy(0, 1);
    fog.way(0, 44, 0, 12);
    fog.net(0);
    fog.gets(0, 0, 2);
    fog.when(1, 1);
    fog.ship(0);
    fog.worthless(0, 9);
    fog.doubt(3, 3, 39, 7, 4);
    fog.span(0, 1, 4, 40, 0);
    fog.sure(0, 3, 1, 4, 40);
    fog.let(0, 0, 1);
    fog.brings(0, 0, 0);
    fog.clock(0, 0, 2);
    fog.start(0, 0);
    fog.witnesses(3, 3, 0, 39, true);
    fog.guards();
    fog.light(0, 5, 0);
    fog.asked(0, 0, 1, 0);
    fog.calm(0);
    fog.thick(3);
    fog.hid(0);
    fog.restore();
    fog.clear();
  }
}

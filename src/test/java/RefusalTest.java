import java.util.ArrayList;
import java.util.List;

/**
 * Every argument of every call that the document bounds: the least and the greatest that may be are taken, one beyond
 * either is refused by the document's exception, counted once, and changes nothing; of two the one told ahead counts.
 */
public final class RefusalTest {
  /** An argument that may be from one number to another, and one between them by which the others are looked at. */
  private record Arg(int least, int most, int usual, String refusal) {
  }

  private static final Arg CELL = new Arg(0, 8, 4, "cell");
  private static final Arg CODE = new Arg(0, 88, 44, "cell");
  private static final Arg STEP = new Arg(0, 39, 7, "bad");
  private static final Arg FIRST = new Arg(-1, 39, 7, "bad");
  private static final Arg LAMP = new Arg(0, 4, 2, "none");
  private static final Arg LOT = new Arg(0, 5, 1, "none");
  private static final Arg OTHER_LOT = new Arg(0, 5, 2, "none");
  private static final Arg WALKER = new Arg(0, 3, 1, "none");
  private static final Arg OTHER = new Arg(0, 3, 2, "none");
  private static final Arg SHIP = new Arg(0, 3, 1, "none");
  private static final Arg BID = new Arg(0, 10, 3, "none");
  private static final Arg SEED = new Arg(Integer.MIN_VALUE, Integer.MAX_VALUE, 5, "");
  private static final Arg MANY = bad(1, 40, 20);
  private static final Arg Q = bad(0, 8, 4);
  private static final Arg WAY = bad(0, 1, 0);
  private static final Arg TWO = bad(0, 1, 0);
  private static final Arg THREE = bad(0, 2, 1);

  private static int refused = 0;

  private RefusalTest() {
  }

  public static void main(String[] args) {
    fogs();
    eyes();
    lots();
    rules();
    others();
    texts();
    Check.same("calls that were refused: " + refused, refused > 1000, true);
    Check.end("RefusalTest");
  }

  private static Arg bad(int least, int most, int usual) {
    return new Arg(least, most, usual, "bad");
  }

  private static void fogs() {
    look("told", bad(0, 9, 3));
    look("fog", CELL, CELL, FIRST);
    look("sums", FIRST, bad(0, 3, 1));
    look("set", CELL, CELL, bad(0, 99, 50));
    look("led", LAMP, STEP);
    look("whose", CELL, CELL);
    look("calm", STEP);
    look("thick", FIRST);
    look("doubt", CELL, CELL, STEP, SEED, Q);
  }

  private static void eyes() {
    look("line", CELL, CELL, CELL, CELL, STEP);
    look("where", WALKER, STEP);
    look("sees", WALKER, OTHER, STEP);
    look("often", WALKER, OTHER);
    look("seen", WALKER, STEP);
    look("could", CELL, CELL, STEP);
    look("buy", WALKER, TWO);
    look("way", CODE, CODE, bad(0, 34, 20), bad(0, 12, 5));
    look("hid", WALKER);
    look("meet", WALKER, OTHER);
    look("start", WALKER, TWO);
    look("span", WALKER, SEED, Q, MANY, TWO);
    look("enough", WALKER, bad(0, 99, 20), SEED, Q, MANY);
    look("sure", WALKER, bad(1, 20, 3), SEED, Q, bad(3, 40, 20));
    for (String same : new String[] {"sees 1 1 7", "often 1 1", "meet 1 1", "leaks 1 1 0"}) {
      refuses(same, "bad");
    }
    for (String beside : new String[] {"9", "19", "79", "90", "99", "100"}) {
      refuses("way " + beside + " 0 40 13", "cell");
      refuses("way 0 " + beside + " 40 13", "cell");
    }
    refuses("way 0 0 0 13", "bad");
    refuses("way 0 0 28 12", "bad");
    refuses("way 0 0 39 1", "bad");
    refuses("way 0 0 MAX MAX", "bad");
  }

  private static void lots() {
    look("lot", LOT, THREE);
    look("yards", LOT, FIRST);
    look("leaks", LOT, OTHER_LOT, TWO);
    look("net", LOT);
    look("bid", LOT, bad(1, 999, 30), bad(1, 99, 4));
    look("gets", new Arg(Integer.MIN_VALUE, Integer.MAX_VALUE, 3, ""), STEP, THREE);
    look("sold", LOT, STEP, WAY);
    look("when", LOT, WAY);
    look("worthless", LOT, bad(1, 999, 30));
    look("asked", LOT, STEP, WAY, TWO);
    look("clock", LOT, STEP, THREE);
  }

  private static void rules() {
    look("let", BID, STEP, TWO);
    look("ruled", BID, STEP, TWO);
    look("brings", LOT, STEP, THREE);
  }

  private static void others() {
    look("ship", SHIP);
    look("light", SHIP, bad(1, 20, 5), TWO);
    look("gauge", CELL, CELL, STEP, bad(0, 99, 5));
    look("found", THREE);
    for (String from : new String[] {"false", "true"}) {
      refuses("witnesses -1 0 7 30 " + from, "cell");
      refuses("witnesses 9 0 7 30 " + from, "cell");
      refuses("witnesses 0 -1 7 30 " + from, "cell");
      refuses("witnesses 0 9 7 6 " + from, "cell");
      refuses("witnesses 0 0 -1 30 " + from, "bad");
      refuses("witnesses 0 0 7 40 " + from, "bad");
      refuses("witnesses 0 0 7 6 " + from, "bad");
      refuses("witnesses 0 0 40 40 " + from, "bad");
      refuses("witnesses 0 0 -1 -1 " + from, "bad");
      refuses("witnesses 0 0 39 0 " + from, "bad");
      takes("witnesses 0 0 7 7 " + from);
      takes("witnesses 0 0 0 39 " + from);
      takes("witnesses 8 8 39 39 " + from);
    }
  }

  private static void texts() {
    for (String name : new String[] {"port", "rule"}) {
      for (String n : new String[] {"-1", "41", "600", "601", "MIN", "MAX"}) {
        Calls calls = room().feed(" ".repeat(40));
        refuses(calls, name + " " + n, "bad");
      }
      for (String n : new String[] {"0", "40"}) {
        room().feed(" ".repeat(40)).due(name + " " + n + " = 0", "count 1 = 0", "status 2 = 0");
      }
      Calls empty = room();
      refuses(empty, name + " 1", "bad");
      empty.due(name + " 0 = 0");
    }
    Calls full = room().feed(" ".repeat(600));
    refuses(full, "rule 201", "bad");
    refuses(full, "rule 600", "bad");
    refuses(full, "port 601", "bad");
    full.due("rule 200 = 0", "status 2 = 3");
    room().feed(" ".repeat(600)).due("port 600 = 0", "count 1 = 0");
  }

  /** A port with five LAMPS and all else that a port may have, eleven BIDS, seven GAUGES and an IMAGE. */
  private static Calls room() {
    StringBuilder text = new StringBuilder("port 9 9;fog 0 0 8 8 9;wind 0 2 1 3;thin 9 1;steamer 3 8 8;");
    text.append("lamp 0 0 1;".repeat(5));
    for (int i = 0; i < 6; i++) {
      text.append("lot ").append(i).append(" 0 ").append(i).append(" 4 1 2;");
    }
    text.append("walk 0 0 0 eeeesssso;".repeat(4)).append("watch 8 0;".repeat(4)).append("ship 0 5;".repeat(4));
    Calls calls = Calls.at("a port with all", text.toString());
    calls.rule(1, "pay 3;");
    for (int i = 1; i <= 11; i++) {
      calls.due("bid " + i % 6 + " " + i + " " + i + " = " + i);
    }
    for (int i = 1; i <= 7; i++) {
      calls.due("gauge 4 4 " + i + " 9 = " + i);
    }
    return calls.due("image = 1");
  }

  private static void look(String name, Arg... args) {
    for (int i = 0; i < args.length; i++) {
      takes(call(name, args, i, args[i].least));
      takes(call(name, args, i, args[i].most));
      for (int one : beyond(args[i])) {
        refuses(call(name, args, i, one), args[i].refusal);
        for (int j = i + 1; j < args.length; j++) {
          both(name, args, i, one, j);
        }
      }
    }
  }

  /** Two that may not be: no such CELL is told ahead of others, none such ahead of what is bad. */
  private static void both(String name, Arg[] args, int i, int one, int j) {
    boolean first = rank(args[i]) <= rank(args[j]);
    for (int other : beyond(args[j])) {
      String[] words = call(name, args, i, one).split(" ");
      words[j + 1] = String.valueOf(other);
      refuses(String.join(" ", words), first ? args[i].refusal : args[j].refusal);
    }
  }

  private static int rank(Arg arg) {
    return List.of("cell", "none", "bad", "").indexOf(arg.refusal);
  }

  private static List<Integer> beyond(Arg arg) {
    List<Integer> all = new ArrayList<>();
    if (!arg.refusal.isEmpty()) {
      all.add(arg.least - 1);
      all.add(arg.most + 1);
      all.add(Integer.MIN_VALUE);
      all.add(Integer.MAX_VALUE);
    }
    return all;
  }

  private static String call(String name, Arg[] args, int at, int value) {
    StringBuilder call = new StringBuilder(name);
    for (int i = 0; i < args.length; i++) {
      call.append(' ').append(i == at ? value : args[i].usual);
    }
    return call.toString();
  }

  private static void takes(String call) {
    Calls calls = room();
    String answer = calls.answer(call);
    Check.same(call + " is taken: " + answer, answer.matches("-?\\d+|true|false"), true);
    calls.due("status 0 = 0", "status 1 = 0", "status 2 = 0");
  }

  private static void refuses(String call, String refusal) {
    refuses(room(), call, refusal);
  }

  private static void refuses(Calls calls, String call, String refusal) {
    refused++;
    String before = all(calls);
    int[] counts = counts(calls);
    calls.due(call + " = " + refusal);
    int[] now = counts(calls);
    String[] kinds = {"cell", "none", "bad"};
    for (int i = 0; i < 3; i++) {
      Check.same(call + " counted as " + kinds[i], now[i] - counts[i], kinds[i].equals(refusal) ? 1 : 0);
    }
    Check.same(call + " changes nothing", all(calls), before);
  }

  private static int[] counts(Calls calls) {
    int[] counts = new int[3];
    for (int i = 0; i < 3; i++) {
      counts[i] = Integer.parseInt(calls.answer("status " + i));
    }
    return counts;
  }

  /** What a call could change: what is told, FOG at first and later, what BIDS get, the RULE, GAUGES, counts. */
  private static String all(Calls calls) {
    StringBuilder all = new StringBuilder();
    for (int i = 0; i < 10; i++) {
      all.append(calls.answer("told " + i)).append(' ');
    }
    for (String call : new String[] {"sums -1 0", "sums 39 0", "sums 39 1", "sums 39 2", "sums 39 3", "fog 4 4 -1",
        "fog 4 4 7", "net 1", "sold 1 0 0", "ruled 1 0 1", "right", "count 0", "count 1", "fault", "buy 0 0", "ship 0"}) {
      all.append(calls.answer(call)).append(' ');
    }
    return all.toString();
  }
}

import java.util.ArrayDeque;
import java.util.ArrayList;
import java.util.Arrays;
import java.util.Comparator;
import java.util.Deque;
import java.util.HashMap;
import java.util.List;
import java.util.Map;
import java.util.NoSuchElementException;
import java.util.function.ToIntFunction;

/** The document written down a second time, as plainly as can be and without a thought for speed. */
public final class Model {
  private static final class Fault extends RuntimeException {
    private static final long serialVersionUID = 1L;
    final int kind;
    final int place;

    Fault(int kind, int place) {
      super(null, null, false, false);
      this.kind = kind;
      this.place = place;
    }
  }

  private record Spot(int x, int y) {
    int code() {
      return x + 10 * y;
    }
  }

  private record Wind(int from, int i, int j, int p) {
  }

  private record Thin(int from, int n) {
  }

  private record Lamp(Spot at, int r) {
  }

  private record Steamer(int step, Spot at) {
  }

  private record Lot(int x, int y, int a, int b, int f, int d) {
    boolean holds(Spot s) {
      return s.x >= x && s.x <= a && s.y >= y && s.y <= b;
    }
  }

  private record Walk(int step, List<Spot> path) {
    Spot in(int s) {
      return s < step || s - step >= path.size() || s > 39 ? null : path.get(s - step);
    }
  }

  private record Ship(int column, int bears) {
  }

  private record Bid(int lot, int yards, int price) {
  }

  private record Gauge(Spot at, int step, int yards) {
  }

  private record Image(int[][] first, List<Bid> bids, List<Gauge> gauges) {
  }

  private record Part(String word, ToIntFunction<Map<String, Integer>> tells) {
  }

  private static final class Port {
    int w = 6;
    int h = 5;
    int sight = 20;
    int[][] first = new int[9][9];
    List<Wind> winds = new ArrayList<>();
    List<Thin> thins = new ArrayList<>();
    List<Lamp> lamps = new ArrayList<>();
    List<Steamer> steamers = new ArrayList<>();
    List<Lot> lots = new ArrayList<>();
    List<Walk> walks = new ArrayList<>();
    List<Spot> watches = new ArrayList<>();
    List<Ship> ships = new ArrayList<>();

    boolean has(Spot s) {
      return s.x >= 0 && s.y >= 0 && s.x < w && s.y < h;
    }

    List<Spot> spots() {
      List<Spot> all = new ArrayList<>();
      for (int y = 0; y < h; y++) {
        for (int x = 0; x < w; x++) {
          all.add(new Spot(x, y));
        }
      }
      return all;
    }

    List<Spot> about(Spot s) {
      return spots().stream().filter(o -> Math.abs(o.x - s.x) <= 1 && Math.abs(o.y - s.y) <= 1).toList();
    }

    int lotOf(Spot s) {
      for (int i = 0; i < lots.size(); i++) {
        if (lots.get(i).holds(s)) {
          return i;
        }
      }
      return -1;
    }
  }

  /** What happens in the 40 STEPS; row s + 1 is behind STEP s. */
  private final class Story {
    int seed;
    int q;
    Lamp more;
    int duelStep = -1;
    Spot duel;
    int[][][] fog = new int[41][9][9];
    int[] gone = new int[41];
    int[] burned = new int[41];
    int[] thinned = new int[41];
    int[] moved = new int[41];
    int[][] led = new int[7][41];
    int[][][] burnedOn = new int[7][9][9];
    int[][] leak = new int[6][6];

    Story run() {
      for (int y = 0; y < 9; y++) {
        fog[0][y] = port.first[y].clone();
      }
      for (int s = 0; s < 40; s++) {
        step(s);
      }
      return this;
    }

    void step(int s) {
      int r = s + 1;
      gone[r] = gone[s];
      burned[r] = burned[s];
      thinned[r] = thinned[s];
      for (int[] one : led) {
        one[r] = one[s];
      }
      int[][] now = new int[9][9];
      for (int y = 0; y < 9; y++) {
        now[y] = fog[s][y].clone();
      }
      wind(s, now);
      for (Steamer boat : port.steamers) {
        if (boat.step == s) {
          List<Spot> near = port.about(boat.at);
          int all = near.stream().mapToInt(o -> now[o.y][o.x]).sum();
          near.forEach(o -> now[o.y][o.x] = all / near.size());
          now[boat.at.y][boat.at.x] += all % near.size();
        }
      }
      for (Spot o : port.spots()) {
        gone[r] += Math.max(0, now[o.y][o.x] - 99);
        now[o.y][o.x] = Math.min(99, now[o.y][o.x]);
      }
      List<Lamp> lamps = new ArrayList<>(port.lamps);
      if (more != null) {
        lamps.add(more);
      }
      for (int l = 0; l < lamps.size(); l++) {
        for (Spot o : port.about(lamps.get(l).at)) {
          int takes = Math.min(now[o.y][o.x], lamps.get(l).r);
          now[o.y][o.x] -= takes;
          burned[r] += takes;
          led[l][r] += takes;
          burnedOn[l][o.y][o.x] += takes;
        }
      }
      int loses = 0;
      int from = -1;
      for (Thin thin : port.thins) {
        if (thin.from <= s && thin.from >= from) {
          from = thin.from;
          loses = thin.n;
        }
      }
      for (Spot o : port.spots()) {
        int takes = Math.min(now[o.y][o.x], loses);
        now[o.y][o.x] -= takes;
        thinned[r] += takes;
      }
      if (s == duelStep) {
        now[duel.y][duel.x] = 0;
      }
      fog[r] = now;
    }

    void wind(int s, int[][] now) {
      int across = 0;
      int down = 0;
      int parts = 0;
      int from = -1;
      for (Wind wind : port.winds) {
        if (wind.from <= s && wind.from >= from) {
          from = wind.from;
          across = wind.i - 1;
          down = wind.j - 1;
          parts = wind.p;
        }
      }
      seed = seed * 1103515245 + 12345;
      if (((seed >> 16) & 7) < q && (across != 0 || down != 0)) {
        // the ways in the order of the document, each turned into the next one
        int[][] ways = {{2, 1}, {2, 2}, {1, 2}, {0, 2}, {0, 1}, {0, 0}, {1, 0}, {2, 0}, {2, 1}};
        for (int i = 0; i < 8; i++) {
          if (ways[i][0] == across + 1 && ways[i][1] == down + 1) {
            across = ways[i + 1][0] - 1;
            down = ways[i + 1][1] - 1;
            break;
          }
        }
      }
      if (across == 0 && down == 0) {
        return;
      }
      int[][] was = new int[9][9];
      for (int y = 0; y < 9; y++) {
        was[y] = now[y].clone();
      }
      for (Spot o : port.spots()) {
        int goes = was[o.y][o.x] * parts / 8;
        Spot to = new Spot(o.x + across, o.y + down);
        now[o.y][o.x] -= goes;
        moved[s + 1] += goes;
        if (port.has(to)) {
          now[to.y][to.x] += goes;
          int a = port.lotOf(o);
          int b = port.lotOf(to);
          if (a >= 0 && b >= 0 && a != b) {
            leak[a][b] += goes;
          }
        } else {
          gone[s + 1] += goes;
        }
      }
    }

    int at(Spot o, int s) {
      return fog[s + 1][o.y][o.x];
    }

    int inLot(int lot, int s) {
      return port.spots().stream().filter(o -> port.lotOf(o) == lot).mapToInt(o -> at(o, s)).sum();
    }

    /** -1: there is no LINE. */
    int line(Spot from, Spot to, int s) {
      int sum = 0;
      Spot o = from;
      for (int i = 0; i < 10; i++) {
        sum += at(o, s);
        if (o.equals(to)) {
          int dx = Math.abs(to.x - from.x);
          int dy = Math.abs(to.y - from.y);
          return dx == 0 || dy == 0 || dx == dy ? sum : -1;
        }
        o = new Spot(o.x + Integer.signum(to.x - o.x), o.y + Integer.signum(to.y - o.y));
      }
      return -1;
    }

    boolean sees(Spot from, Spot to, int s, int more) {
      if (from == null || to == null) {
        return false;
      }
      int sum = line(from, to, s);
      return sum >= 0 && sum + more < port.sight;
    }

    int need(Spot o, int s) {
      for (int n = 0; n < 99; n++) {
        int yards = n;
        if (port.watches.stream().noneMatch(watch -> sees(watch, o, s, yards))) {
          return n;
        }
      }
      return 99;
    }

    int buy(Walk walk, int from) {
      int n = 0;
      for (int i = 0; i < walk.path.size() && from + i < 40; i++) {
        n = Math.max(n, need(walk.path.get(i), from + i));
      }
      return n;
    }
  }

  private Port port = new Port();
  private List<Part> rule = new ArrayList<>();
  private List<Bid> bids = new ArrayList<>();
  private List<Gauge> gauges = new ArrayList<>();
  private final Deque<Image> images = new ArrayDeque<>();
  private final StringBuilder tape = new StringBuilder();
  private int place = -1;
  private final int[] refused = new int[3];
  private Story kept;

  private Story story() {
    if (kept == null) {
      kept = new Story().run();
    }
    return kept;
  }

  private Story doubtful(int seed, int q) {
    Story story = new Story();
    story.seed = seed;
    story.q = q;
    return story.run();
  }

  // ---- refusals ----

  private Spot cell(int x, int y) {
    Spot o = new Spot(x, y);
    if (!port.has(o)) {
      refused[0]++;
      throw new IndexOutOfBoundsException();
    }
    return o;
  }

  private <T> T one(List<T> list, int i) {
    if (i < 0 || i >= list.size()) {
      refused[1]++;
      throw new NoSuchElementException();
    }
    return list.get(i);
  }

  private void must(boolean holds) {
    if (!holds) {
      refused[2]++;
      throw new IllegalArgumentException();
    }
  }

  private void step(int s) {
    must(s >= 0 && s <= 39);
  }

  private void among(int value, int least, int most) {
    must(value >= least && value <= most);
  }

  // ---- the texts ----

  private static final class Text {
    final String s;
    int i;
    int token;

    Text(String s) {
      this.s = s;
    }

    char next() {
      while (i < s.length() && s.charAt(i) == ' ') {
        i++;
      }
      return i < s.length() ? s.charAt(i) : 0xffff;
    }

    boolean ended() {
      return next() == 0xffff;
    }

    int number(int least, int most) {
      next();
      token = i;
      while (i < s.length() && "0123456789".indexOf(s.charAt(i)) >= 0) {
        i++;
      }
      if (i == token) {
        throw new Fault(1, i);
      }
      java.math.BigInteger n = new java.math.BigInteger(s.substring(token, i));
      if (n.bitLength() > 30 || n.intValue() < least || n.intValue() > most) {
        throw new Fault(2, token);
      }
      return n.intValue();
    }

    String word() {
      next();
      token = i;
      while (i < s.length() && s.charAt(i) >= 'a' && s.charAt(i) <= 'z') {
        i++;
      }
      if (i == token) {
        throw new Fault(1, i);
      }
      return s.substring(token, i);
    }

    String peekWord() {
      next();
      int j = i;
      while (j < s.length() && s.charAt(j) >= 'a' && s.charAt(j) <= 'z') {
        j++;
      }
      return s.substring(i, j);
    }

    void sign(char c) {
      if (next() != c) {
        throw new Fault(1, i);
      }
      i++;
    }
  }

  private static final Map<String, Integer> MOST = Map.of("wind", 12, "thin", 12, "lamp", 6, "steamer", 6,
      "lot", 6, "walk", 4, "watch", 4, "ship", 4);

  private static Port readPort(String s) {
    Text text = new Text(s);
    Port out = new Port();
    Map<String, Integer> told = new HashMap<>();
    int clauses = 0;
    while (!text.ended()) {
      String word = text.word();
      List<String> all = List.of("port", "fog", "wind", "thin", "lamp", "steamer", "lot", "walk", "watch",
          "sight", "ship");
      if (!all.contains(word)) {
        throw new Fault(1, text.token);
      }
      clauses++;
      int many = told.merge(word, 1, Integer::sum);
      if (clauses > 60 || many > MOST.getOrDefault(word, 60)) {
        throw new Fault(3, text.token);
      }
      if (word.equals("port") && clauses > 1) {
        throw new Fault(4, text.token);
      }
      readClause(text, word, out);
      text.sign(';');
    }
    return out;
  }

  private static void readClause(Text t, String word, Port out) {
    switch (word) {
      case "port" -> {
        out.w = t.number(2, 9);
        out.h = t.number(2, 9);
      }
      case "fog" -> {
        int x = t.number(0, out.w - 1);
        int y = t.number(0, out.h - 1);
        Lot block = new Lot(x, y, t.number(x, out.w - 1), t.number(y, out.h - 1), t.number(1, 99), 0);
        for (Spot o : out.spots()) {
          if (block.holds(o)) {
            out.first[o.y][o.x] = Math.min(99, out.first[o.y][o.x] + block.f);
          }
        }
      }
      case "wind" -> out.winds.add(new Wind(t.number(0, 39), t.number(0, 2), t.number(0, 2), t.number(0, 8)));
      case "thin" -> out.thins.add(new Thin(t.number(0, 39), t.number(0, 9)));
      case "lamp" -> out.lamps.add(new Lamp(spot(t, out), t.number(1, 20)));
      case "steamer" -> out.steamers.add(new Steamer(t.number(0, 39), spot(t, out)));
      case "lot" -> readLot(t, out);
      case "walk" -> {
        Spot o = spot(t, out);
        int step = t.number(0, 39);
        String moves = t.word();
        List<Spot> path = new ArrayList<>(List.of(o));
        for (char c : moves.toCharArray()) {
          switch (c) {
            case 'n' -> o = new Spot(o.x, o.y - 1);
            case 's' -> o = new Spot(o.x, o.y + 1);
            case 'w' -> o = new Spot(o.x - 1, o.y);
            case 'e' -> o = new Spot(o.x + 1, o.y);
            case 'o' -> { }
            default -> throw new Fault(2, t.token);
          }
          if (!out.has(o)) {
            throw new Fault(2, t.token);
          }
          path.add(o);
        }
        if (moves.length() > 12) {
          throw new Fault(2, t.token);
        }
        out.walks.add(new Walk(step, path));
      }
      case "watch" -> out.watches.add(spot(t, out));
      case "sight" -> out.sight = t.number(1, 99);
      default -> out.ships.add(new Ship(t.number(0, out.w - 1), t.number(0, 99)));
    }
  }

  private static void readLot(Text t, Port out) {
    int x = t.number(0, out.w - 1);
    int y = t.number(0, out.h - 1);
    int a = t.number(x, out.w - 1);
    int b = t.number(y, out.h - 1);
    Lot block = new Lot(x, y, a, b, 0, 0);
    if (out.spots().stream().anyMatch(o -> block.holds(o) && out.lotOf(o) >= 0)) {
      throw new Fault(2, t.token);
    }
    out.lots.add(new Lot(x, y, a, b, t.number(0, 9), t.number(0, 9)));
  }

  private static Spot spot(Text t, Port out) {
    return new Spot(t.number(0, out.w - 1), t.number(0, out.h - 1));
  }

  private static List<Part> readRule(String s) {
    Text t = new Text(s);
    List<Part> parts = new ArrayList<>();
    while (!t.ended()) {
      String word = t.word();
      if (!List.of("allow", "first", "pay", "most").contains(word)) {
        throw new Fault(1, t.token);
      }
      if (parts.size() == 8) {
        throw new Fault(3, t.token);
      }
      parts.add(new Part(word, word.equals("allow") ? choice(t, 0) : sum(t, 0)));
      t.sign(';');
    }
    return parts;
  }

  private static ToIntFunction<Map<String, Integer>> choice(Text t, int open) {
    ToIntFunction<Map<String, Integer>> left = both(t, open);
    while (t.peekWord().equals("or")) {
      t.word();
      ToIntFunction<Map<String, Integer>> a = left;
      ToIntFunction<Map<String, Integer>> b = both(t, open);
      left = m -> a.applyAsInt(m) != 0 || b.applyAsInt(m) != 0 ? 1 : 0;
    }
    return left;
  }

  private static ToIntFunction<Map<String, Integer>> both(Text t, int open) {
    ToIntFunction<Map<String, Integer>> left = test(t, open);
    while (t.peekWord().equals("and")) {
      t.word();
      ToIntFunction<Map<String, Integer>> a = left;
      ToIntFunction<Map<String, Integer>> b = test(t, open);
      left = m -> a.applyAsInt(m) != 0 && b.applyAsInt(m) != 0 ? 1 : 0;
    }
    return left;
  }

  private static ToIntFunction<Map<String, Integer>> test(Text t, int open) {
    if (t.peekWord().equals("not")) {
      t.word();
      if (open == 6) {
        throw new Fault(3, t.token);
      }
      ToIntFunction<Map<String, Integer>> b = test(t, open + 1);
      return m -> b.applyAsInt(m) == 0 ? 1 : 0;
    }
    if (t.next() == '[') {
      if (open == 6) {
        throw new Fault(3, t.i);
      }
      t.sign('[');
      ToIntFunction<Map<String, Integer>> c = choice(t, open + 1);
      t.sign(']');
      return c;
    }
    ToIntFunction<Map<String, Integer>> a = sum(t, open);
    char relation = t.next();
    if ("<>=".indexOf(relation) < 0) {
      throw new Fault(1, t.i);
    }
    t.sign(relation);
    ToIntFunction<Map<String, Integer>> b = sum(t, open);
    return m -> {
      int x = a.applyAsInt(m);
      int y = b.applyAsInt(m);
      return (relation == '<' ? x < y : relation == '>' ? x > y : x == y) ? 1 : 0;
    };
  }

  private static ToIntFunction<Map<String, Integer>> sum(Text t, int open) {
    ToIntFunction<Map<String, Integer>> left = product(t, open);
    while (t.next() == '+' || t.next() == '-') {
      boolean plus = t.next() == '+';
      t.sign(t.next());
      ToIntFunction<Map<String, Integer>> a = left;
      ToIntFunction<Map<String, Integer>> b = product(t, open);
      left = m -> plus ? a.applyAsInt(m) + b.applyAsInt(m) : a.applyAsInt(m) - b.applyAsInt(m);
    }
    return left;
  }

  private static ToIntFunction<Map<String, Integer>> product(Text t, int open) {
    ToIntFunction<Map<String, Integer>> left = unit(t, open);
    while (t.next() == '*' || t.next() == '/') {
      boolean times = t.next() == '*';
      t.sign(t.next());
      ToIntFunction<Map<String, Integer>> a = left;
      ToIntFunction<Map<String, Integer>> b = unit(t, open);
      left = m -> {
        int x = a.applyAsInt(m);
        int y = b.applyAsInt(m);
        return times ? x * y : y == 0 ? 0 : x / y;
      };
    }
    return left;
  }

  private static ToIntFunction<Map<String, Integer>> unit(Text t, int open) {
    char c = t.next();
    if (c == '(') {
      if (open == 6) {
        throw new Fault(3, t.i);
      }
      t.sign('(');
      ToIntFunction<Map<String, Integer>> e = sum(t, open + 1);
      t.sign(')');
      return e;
    }
    if (c >= '0' && c <= '9') {
      int n = t.number(0, 999);
      return m -> n;
    }
    String word = t.word();
    if (!List.of("price", "wants", "lot", "step", "there", "left", "floor", "number", "bids").contains(word)) {
      throw new Fault(1, t.token);
    }
    return m -> m.get(word);
  }

  public int feed(int a, int b, int c, int d, int e) {
    if (tape.length() + 20 > 600) {
      return -1;
    }
    for (int n : new int[] {a, b, c, d, e}) {
      for (int i = 3; i >= 0; i--) {
        tape.append((char) (n >> 8 * i & 255));
      }
    }
    return tape.length();
  }

  public int port(int n) {
    among(n, 0, tape.length());
    String text = tape.substring(0, n);
    tape.setLength(0);
    place = -1;
    try {
      port = readPort(text);
    } catch (Fault f) {
      place = f.place;
      return f.kind - 10;
    }
    rule = new ArrayList<>();
    bids = new ArrayList<>();
    gauges = new ArrayList<>();
    images.clear();
    kept = null;
    return port.lots.size();
  }

  public int fault() {
    return place;
  }

  public int told(int what) {
    among(what, 0, 9);
    return new int[] {port.w, port.h, port.lamps.size(), port.lots.size(), port.walks.size(),
        port.watches.size(), port.ships.size(), port.sight, bids.size(), gauges.size()}[what];
  }

  // ---- FOG ----

  public int fog(int x, int y, int step) {
    Spot o = cell(x, y);
    among(step, -1, 39);
    return story().at(o, step);
  }

  public int sums(int step, int what) {
    among(step, -1, 39);
    among(what, 0, 3);
    Story s = story();
    int all = port.spots().stream().mapToInt(o -> s.at(o, step)).sum();
    return new int[] {all, s.gone[step + 1], s.burned[step + 1], s.thinned[step + 1]}[what];
  }

  public int set(int x, int y, int yards) {
    Spot o = cell(x, y);
    among(yards, 0, 99);
    int was = port.first[o.y][o.x];
    port.first[o.y][o.x] = yards;
    kept = null;
    return was;
  }

  public int led(int lamp, int step) {
    one(port.lamps, lamp);
    step(step);
    return story().led[lamp][step + 1];
  }

  public int whose(int x, int y) {
    Spot o = cell(x, y);
    int best = -1;
    for (int l = 0; l < port.lamps.size(); l++) {
      int burned = story().burnedOn[l][o.y][o.x];
      if (burned > (best < 0 ? 0 : story().burnedOn[best][o.y][o.x])) {
        best = l;
      }
    }
    return best;
  }

  public int calm(int step) {
    step(step);
    for (int s = step; s < 40; s++) {
      if (story().moved[s + 1] == 0) {
        return s;
      }
    }
    return -1;
  }

  public int thick(int step) {
    among(step, -1, 39);
    Spot best = null;
    for (Spot o : port.spots()) {
      if (best == null || story().at(o, step) > story().at(best, step)) {
        best = o;
      }
    }
    return best.code();
  }

  public int doubt(int x, int y, int step, int seed, int q) {
    Spot o = cell(x, y);
    step(step);
    among(q, 0, 8);
    return doubtful(seed, q).at(o, step);
  }

  // ---- WALKERS and WATCHES ----

  public int line(int x, int y, int a, int b, int step) {
    Spot from = cell(x, y);
    Spot to = cell(a, b);
    step(step);
    return story().line(from, to, step);
  }

  public int where(int walker, int step) {
    Walk walk = one(port.walks, walker);
    step(step);
    return walk.in(step) == null ? -1 : walk.in(step).code();
  }

  public boolean sees(int walker, int other, int step) {
    Walk a = one(port.walks, walker);
    Walk b = one(port.walks, other);
    must(walker != other);
    step(step);
    return story().sees(a.in(step), b.in(step), step, 0);
  }

  public int often(int walker, int other) {
    Walk a = one(port.walks, walker);
    Walk b = one(port.walks, other);
    must(walker != other);
    int n = 0;
    for (int s = 0; s < 40; s++) {
      n += story().sees(a.in(s), b.in(s), s, 0) ? 1 : 0;
    }
    return n;
  }

  private int watchers(Walk walk, int s) {
    int bits = 0;
    for (int i = 0; i < port.watches.size(); i++) {
      bits += story().sees(port.watches.get(i), walk.in(s), s, 0) ? 1 << i : 0;
    }
    return bits;
  }

  public int seen(int walker, int step) {
    Walk walk = one(port.walks, walker);
    step(step);
    return watchers(walk, step);
  }

  public int could(int x, int y, int step) {
    Spot o = cell(x, y);
    step(step);
    int bits = 0;
    for (int i = 0; i < port.walks.size(); i++) {
      bits += story().sees(port.walks.get(i).in(step), o, step, 0) ? 1 << i : 0;
    }
    return bits;
  }

  public int witnesses(int x, int y, int from, int to, boolean all) {
    Spot o = cell(x, y);
    step(from);
    step(to);
    must(from <= to);
    int bits = 0;
    for (int i = 0; i < port.walks.size(); i++) {
      int n = 0;
      for (int s = from; s <= to; s++) {
        n += story().sees(port.walks.get(i).in(s), o, s, 0) ? 1 : 0;
      }
      bits += (all ? n == to - from + 1 : n > 0) ? 1 << i : 0;
    }
    return bits;
  }

  public int hid(int walker) {
    Walk walk = one(port.walks, walker);
    int n = 0;
    for (int s = 0; s < 40; s++) {
      boolean seen = walk.in(s) == null || watchers(walk, s) != 0;
      for (Walk other : port.walks) {
        seen |= other != walk && story().sees(other.in(s), walk.in(s), s, 0);
      }
      n += seen ? 0 : 1;
    }
    return n;
  }

  public int guards() {
    List<Integer> ever = new ArrayList<>();
    for (Walk walk : port.walks) {
      int bits = 0;
      for (int s = 0; s < 40; s++) {
        bits |= watchers(walk, s);
      }
      if (bits != 0) {
        ever.add(bits);
      }
    }
    List<Integer> sets = new ArrayList<>();
    for (int set = 0; set < 1 << port.watches.size(); set++) {
      int bits = set;
      if (ever.stream().allMatch(e -> (e & bits) != 0)) {
        sets.add(set);
      }
    }
    sets.sort(Comparator.<Integer>comparingInt(Integer::bitCount).thenComparingInt(i -> i));
    return sets.get(0);
  }

  public int meet(int walker, int other) {
    Walk a = one(port.walks, walker);
    Walk b = one(port.walks, other);
    must(walker != other);
    for (int s = 0; s < 40; s++) {
      if (a.in(s) != null && a.in(s).equals(b.in(s))) {
        return s;
      }
    }
    return -1;
  }

  public int buy(int walker, int what) {
    Walk walk = one(port.walks, walker);
    among(what, 0, 1);
    int n = story().buy(walk, walk.step);
    int cost = 0;
    for (int s = 0; s < 40; s++) {
      if (walk.in(s) != null && port.lotOf(walk.in(s)) >= 0) {
        cost += n * port.lots.get(port.lotOf(walk.in(s))).f;
      }
    }
    return what == 0 ? n : cost;
  }

  public int way(int from, int to, int step, int later) {
    Spot a = from < 0 ? cell(-1, -1) : cell(from % 10, from / 10);
    Spot b = to < 0 ? cell(-1, -1) : cell(to % 10, to / 10);
    step(step);
    must(later >= 0 && later <= 12 && step + later <= 39);
    Map<Spot, Integer> least = new HashMap<>();
    least.put(a, story().need(a, step));
    for (int s = step + 1; s <= step + later; s++) {
      Map<Spot, Integer> then = new HashMap<>();
      for (Spot o : least.keySet()) {
        for (Spot p : port.spots()) {
          if (Math.abs(o.x - p.x) + Math.abs(o.y - p.y) <= 1) {
            then.merge(p, least.get(o) + story().need(p, s), Math::min);
          }
        }
      }
      least = then;
    }
    return least.getOrDefault(b, -1);
  }

  public int start(int walker, int what) {
    Walk walk = one(port.walks, walker);
    among(what, 0, 1);
    int best = 0;
    for (int s = 0; s + walk.path.size() - 1 <= 39; s++) {
      if (story().buy(walk, s) < story().buy(walk, best)) {
        best = s;
      }
    }
    return what == 0 ? best : story().buy(walk, best);
  }

  private int[] needs(int walker, int seed, int q, int many) {
    int[] needs = new int[many];
    for (int i = 0; i < many; i++) {
      Walk walk = port.walks.get(walker);
      needs[i] = doubtful(seed + i, q).buy(walk, walk.step);
    }
    Arrays.sort(needs);
    return needs;
  }

  public int span(int walker, int seed, int q, int many, int what) {
    one(port.walks, walker);
    must(q >= 0 && q <= 8 && many >= 1 && many <= 40 && what >= 0 && what <= 1);
    int[] needs = needs(walker, seed, q, many);
    return what == 0 ? needs[0] : needs[many - 1];
  }

  public int enough(int walker, int yards, int seed, int q, int many) {
    one(port.walks, walker);
    must(q >= 0 && q <= 8 && many >= 1 && many <= 40 && yards >= 0 && yards <= 99);
    return (int) Arrays.stream(needs(walker, seed, q, many)).filter(n -> n <= yards).count();
  }

  public int sure(int walker, int k, int seed, int q, int many) {
    one(port.walks, walker);
    must(q >= 0 && q <= 8 && many >= 1 && many <= 40 && k >= 1 && k <= many);
    return needs(walker, seed, q, many)[k - 1];
  }

  // ---- LOTS ----

  public int lot(int lot, int what) {
    Lot l = one(port.lots, lot);
    among(what, 0, 2);
    return new int[] {l.f, l.d, (int) port.spots().stream().filter(l::holds).count()}[what];
  }

  public int yards(int lot, int step) {
    one(port.lots, lot);
    among(step, -1, 39);
    return story().inLot(lot, step);
  }

  public int leaks(int lot, int other, int what) {
    one(port.lots, lot);
    Lot to = one(port.lots, other);
    must(lot != other);
    among(what, 0, 1);
    return story().leak[lot][other] * (what == 0 ? 1 : to.d);
  }

  public int net(int lot) {
    Lot l = one(port.lots, lot);
    int net = 0;
    for (int i = 0; i < port.lots.size(); i++) {
      net += story().leak[i][lot] * l.d;
      net -= story().leak[lot][i] * port.lots.get(i).d;
    }
    return net;
  }

  public int worthless(int lot, int much) {
    one(port.lots, lot);
    among(much, 1, 999);
    int from = 40;
    while (from > 0 && story().inLot(lot, from - 1) < much) {
      from--;
    }
    return from;
  }

  // ---- BIDS ----

  public int bid(int lot, int yards, int price) {
    one(port.lots, lot);
    among(yards, 1, 999);
    among(price, 1, 99);
    if (bids.size() == 12) {
      return -1;
    }
    bids.add(new Bid(lot, yards, price));
    return bids.size();
  }

  /** By BID: what it gets, pays by WAY 0, by WAY 1. */
  private Map<Integer, int[]> sale(int lot, int step, int floor) {
    List<Integer> order = new ArrayList<>();
    for (int i = 0; i < bids.size(); i++) {
      if (bids.get(i).lot == lot && bids.get(i).price >= floor) {
        order.add(i);
      }
    }
    order.sort(Comparator.comparingInt(i -> -bids.get(i).price));
    Map<Integer, int[]> sale = new HashMap<>();
    int left = story().inLot(lot, step);
    int last = 0;
    for (int i : order) {
      int gets = Math.min(left, bids.get(i).yards);
      left -= gets;
      last = gets > 0 ? bids.get(i).price : last;
      sale.put(i, new int[] {gets, gets * bids.get(i).price, 0});
    }
    for (int[] one : sale.values()) {
      one[2] = one[0] * last;
    }
    return sale;
  }

  private int brought(int lot, int step, int way, int floor) {
    return sale(lot, step, floor).values().stream().mapToInt(one -> one[1 + way]).sum();
  }

  public int gets(int i, int step, int what) {
    step(step);
    among(what, 0, 2);
    if (i < 0 || i >= bids.size()) {
      return -1;
    }
    int lot = bids.get(i).lot;
    return sale(lot, step, port.lots.get(lot).f).getOrDefault(i, new int[3])[what];
  }

  public int sold(int lot, int step, int way) {
    Lot l = one(port.lots, lot);
    step(step);
    among(way, 0, 1);
    return brought(lot, step, way, l.f);
  }

  public int when(int lot, int way) {
    Lot l = one(port.lots, lot);
    among(way, 0, 1);
    int best = -1;
    for (int s = 0; s < 40; s++) {
      if (brought(lot, s, way, l.f) > (best < 0 ? 0 : brought(lot, best, way, l.f))) {
        best = s;
      }
    }
    return best;
  }

  public int asked(int lot, int step, int way, int what) {
    one(port.lots, lot);
    step(step);
    among(way, 0, 1);
    among(what, 0, 1);
    int best = 0;
    for (int f = 1; f < 10; f++) {
      if (brought(lot, step, way, f) > brought(lot, step, way, best)) {
        best = f;
      }
    }
    return what == 0 ? best : brought(lot, step, way, best);
  }

  public int clock(int lot, int step, int what) {
    Lot l = one(port.lots, lot);
    step(step);
    among(what, 0, 2);
    for (int price = l.f;; price++) {
      int p = price;
      int want = bids.stream().filter(b -> b.lot == lot && b.price >= p).mapToInt(b -> b.yards).sum();
      if (want <= story().inLot(lot, step)) {
        return new int[] {p, want, p * want}[what];
      }
    }
  }

  public int rule(int n) {
    among(n, 0, Math.min(200, tape.length()));
    String text = tape.substring(0, n);
    tape.setLength(0);
    place = -1;
    try {
      rule = readRule(text);
    } catch (Fault f) {
      place = f.place;
      return f.kind - 10;
    }
    return rule.size();
  }

  private Map<String, Integer> facts(int i, int step, int left) {
    Bid bid = bids.get(i);
    Map<String, Integer> m = new HashMap<>();
    m.put("price", bid.price);
    m.put("wants", bid.yards);
    m.put("lot", bid.lot);
    m.put("step", step);
    m.put("there", story().inLot(bid.lot, step));
    m.put("left", left);
    m.put("floor", port.lots.get(bid.lot).f);
    m.put("number", i);
    m.put("bids", (int) bids.stream().filter(b -> b.lot == bid.lot).count());
    return m;
  }

  private int tells(String word, Map<String, Integer> facts, int without) {
    int value = without;
    for (Part part : rule) {
      value = part.word.equals(word) ? part.tells.applyAsInt(facts) : value;
    }
    return value;
  }

  private boolean in(int i, int step) {
    Map<String, Integer> facts = facts(i, step, story().inLot(bids.get(i).lot, step));
    List<Part> allows = rule.stream().filter(part -> part.word.equals("allow")).toList();
    return allows.isEmpty() || allows.stream().anyMatch(part -> part.tells.applyAsInt(facts) != 0);
  }

  private int firstOf(int i, int step) {
    return tells("first", facts(i, step, story().inLot(bids.get(i).lot, step)), bids.get(i).price);
  }

  private Map<Integer, int[]> ruledSale(int lot, int step) {
    List<Integer> order = new ArrayList<>();
    for (int i = 0; i < bids.size(); i++) {
      if (bids.get(i).lot == lot && in(i, step)) {
        order.add(i);
      }
    }
    order.sort((a, b) -> Integer.compare(firstOf(b, step), firstOf(a, step)));
    Map<Integer, int[]> sale = new HashMap<>();
    int left = story().inLot(lot, step);
    for (int i : order) {
      Map<String, Integer> facts = facts(i, step, left);
      int most = tells("most", facts, Integer.MAX_VALUE);
      int pay = tells("pay", facts, bids.get(i).price);
      int gets = Math.min(bids.get(i).yards, Math.min(left, most < 0 ? 0 : most));
      left -= gets;
      sale.put(i, new int[] {gets, gets * (pay < 0 ? 0 : pay)});
    }
    return sale;
  }

  public int let(int bid, int step, int what) {
    one(bids, bid);
    step(step);
    among(what, 0, 1);
    return what == 1 ? firstOf(bid, step) : in(bid, step) ? 1 : 0;
  }

  public int ruled(int bid, int step, int what) {
    Bid b = one(bids, bid);
    step(step);
    among(what, 0, 1);
    return ruledSale(b.lot, step).getOrDefault(bid, new int[2])[what];
  }

  public int brings(int lot, int step, int what) {
    one(port.lots, lot);
    step(step);
    among(what, 0, 2);
    int all = 0;
    for (int[] one : ruledSale(lot, step).values()) {
      all += what == 0 ? one[1] : what == 1 ? one[0] : one[0] > 0 ? 1 : 0;
    }
    return all;
  }

  // ---- SHIPS ----

  private int comes(Story story, int ship) {
    Ship one = port.ships.get(ship);
    for (int s = 0; s < 40; s++) {
      int step = s;
      if (port.spots().stream().allMatch(o -> o.x != one.column || story.at(o, step) <= one.bears)) {
        return s;
      }
    }
    return 40;
  }

  public int ship(int ship) {
    one(port.ships, ship);
    int s = comes(story(), ship);
    return s == 40 ? -1 : s;
  }

  public int light(int ship, int burns, int what) {
    one(port.ships, ship);
    among(burns, 1, 20);
    among(what, 0, 1);
    if (port.lamps.size() == 6) {
      return -1;
    }
    int best = 40;
    Spot at = null;
    for (Spot o : port.spots()) {
      Story story = new Story();
      story.more = new Lamp(o, burns);
      int s = comes(story.run(), ship);
      if (s < best) {
        best = s;
        at = o;
      }
    }
    return at == null ? -1 : what == 0 ? at.code() : best;
  }

  // ---- GAUGES ----

  public int gauge(int x, int y, int step, int yards) {
    Spot o = cell(x, y);
    step(step);
    among(yards, 0, 99);
    if (gauges.size() == 8) {
      return -1;
    }
    gauges.add(new Gauge(o, step, yards));
    return gauges.size();
  }

  /** FOG on a CELL behind a STEP, with a duel. */
  int duelled(int duelStep, int duelX, int duelY, int x, int y, int step) {
    Story story = new Story();
    story.duelStep = duelStep;
    story.duel = new Spot(duelX, duelY);
    return story.run().at(new Spot(x, y), step);
  }

  private boolean right(Story story) {
    return gauges.stream().allMatch(g -> story.at(g.at, g.step) == g.yards);
  }

  public boolean right() {
    return right(story());
  }

  public int found(int what) {
    among(what, 0, 2);
    int many = 0;
    int step = -1;
    int code = -1;
    for (int s = 0; s < 40; s++) {
      for (Spot o : port.spots()) {
        Story story = new Story();
        story.duelStep = s;
        story.duel = o;
        if (right(story.run())) {
          step = many == 0 ? s : step;
          code = many == 0 ? o.code() : code;
          many++;
        }
      }
    }
    return new int[] {many, step, code}[what];
  }

  public int clear() {
    int n = bids.size() + gauges.size();
    bids.clear();
    gauges.clear();
    return n;
  }

  // ---- IMAGES and counts ----

  public int image() {
    if (images.size() == 3) {
      return -1;
    }
    int[][] first = new int[9][];
    for (int y = 0; y < 9; y++) {
      first[y] = port.first[y].clone();
    }
    images.push(new Image(first, new ArrayList<>(bids), new ArrayList<>(gauges)));
    return images.size();
  }

  public int restore() {
    if (images.isEmpty()) {
      return -1;
    }
    Image image = images.pop();
    port.first = image.first;
    bids = image.bids;
    gauges = image.gauges;
    kept = null;
    return images.size();
  }

  public int status(int what) {
    return what < 0 || what > 2 ? -1 : refused[what];
  }

  public int count(int what) {
    return what == 0 ? images.size() : what == 1 ? tape.length() : -1;
  }
}

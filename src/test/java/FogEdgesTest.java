import java.math.BigInteger;

/** The edges of FOG STEP by STEP: wind, steamers, what is above 99, lamps, thinning, what adds up, winds in doubt. */
public final class FogEdgesTest {
  private static final int[][] RING = {{2, 1}, {2, 2}, {1, 2}, {0, 2}, {0, 1}, {0, 0}, {1, 0}, {2, 0}};
  private static final BigInteger TIMES = BigInteger.valueOf(1103515245L);
  private static final BigInteger MORE = BigInteger.valueOf(12345L);
  private static final BigInteger WRAP = BigInteger.ONE.shiftLeft(32);

  private FogEdgesTest() {
  }

  public static void main(String[] args) {
    ways();
    parts();
    windSteps();
    atOnce();
    steamers();
    spill();
    lamps();
    thin();
    order();
    set();
    calm();
    thick();
    draws();
    turns();
    doubt();
    Check.end("FogEdgesTest");
  }

  private static void ways() {
    for (int i = 0; i < 3; i++) {
      for (int j = 0; j < 3; j++) {
        String wind = "wind 0 " + i + " " + j + " 8;";
        Calls.at(wind, "port 3 3;fog 1 1 1 1 8;" + wind).due("fog " + i + " " + j + " 0 = 8", "sums 0 0 = 8");
        // off the port: nothing, one side, or two sides with their common corner
        int gone = i == 1 && j == 1 ? 0 : i == 1 || j == 1 ? 24 : 40;
        Calls.at(wind + " off the port", "port 3 3;fog 0 0 2 2 8;" + wind)
            .due("sums 0 1 = " + gone, "sums 0 0 = " + (72 - gone), "fog 1 1 0 = 8");
      }
    }
  }

  private static void parts() {
    int[] stays = {99, 87, 75, 62, 50, 38, 25, 13, 0};
    for (int p = 0; p <= 8; p++) {
      Calls.at(p + " parts of 99", "port 2 2;fog 0 0 0 0 99;wind 0 2 1 " + p + ";wind 1 2 1 0;")
          .due("fog 0 0 0 = " + stays[p], "fog 1 0 0 = " + (99 - stays[p]), "fog 1 0 39 = " + (99 - stays[p]));
    }
    int[][] cut = {{7, 1, 0}, {8, 1, 1}, {15, 1, 1}, {16, 1, 2}, {1, 7, 0}, {1, 8, 1}, {2, 4, 1}, {3, 4, 1}, {2, 3, 0},
        {3, 3, 1}, {9, 7, 7}};
    for (int[] one : cut) {
      Calls.at(one[1] + " parts of " + one[0], "port 2 2;fog 0 0 0 0 " + one[0] + ";wind 0 1 2 " + one[1] + ";")
          .due("fog 0 1 0 = " + one[2], "fog 0 0 0 = " + (one[0] - one[2]));
    }
  }

  private static void windSteps() {
    Calls.at("from step 0 on", "port 9 2;fog 0 0 0 0 9;wind 0 2 1 8;").due("fog 0 0 -1 = 9", "fog 1 0 0 = 9",
        "fog 8 0 7 = 9", "sums 8 1 = 9");
    Calls.at("from step 39 on", "port 9 2;fog 0 0 0 0 9;wind 39 2 1 8;").due("fog 0 0 38 = 9", "fog 1 0 39 = 9");
    Calls.at("ahead of any", "port 9 2;fog 0 0 0 0 9;wind 5 2 1 8;").due("fog 0 0 4 = 9", "fog 1 0 5 = 9",
        "fog 2 0 6 = 9");
    Calls.at("of one the last", "port 9 2;fog 4 0 4 0 9;wind 2 2 1 8;wind 2 1 0 8;wind 2 0 1 8;")
        .due("fog 4 0 1 = 9", "fog 3 0 2 = 9");
    Calls.at("told the other way round", "port 9 2;fog 4 0 4 0 9;wind 3 0 1 8;wind 1 2 1 8;").due("fog 4 0 0 = 9",
        "fog 5 0 1 = 9", "fog 6 0 2 = 9", "fog 5 0 3 = 9");
    Calls.at("no way from 2 on", "port 9 2;fog 0 0 0 0 9;wind 0 2 1 8;wind 2 1 1 8;").due("fog 2 0 1 = 9",
        "fog 2 0 39 = 9");
    Calls.at("no parts from 2 on", "port 9 2;fog 0 0 0 0 9;wind 0 2 1 8;wind 2 2 1 0;").due("fog 2 0 39 = 9");
  }

  private static void atOnce() {
    Calls.at("all, all at once", "port 4 2;fog 0 0 2 0 8;wind 0 2 1 8;").due("fog 0 0 0 = 0", "fog 1 0 0 = 8",
        "fog 3 0 0 = 8", "fog 1 0 1 = 0", "sums 0 1 = 0", "sums 1 1 = 8", "sums 2 1 = 16", "sums 3 1 = 24");
    Calls.at("half, all at once", "port 4 2;fog 0 0 2 0 8;wind 0 2 1 4;").due("fog 0 0 0 = 4", "fog 1 0 0 = 8",
        "fog 2 0 0 = 8", "fog 3 0 0 = 4");
    Calls.at("against the order of the cells", "port 4 2;fog 1 0 3 0 8;wind 0 0 1 4;").due("fog 0 0 0 = 4",
        "fog 1 0 0 = 8", "fog 2 0 0 = 8", "fog 3 0 0 = 4");
  }

  private static void steamers() {
    Calls.at("fewer yards than cells", "port 3 3;fog 0 0 0 0 8;steamer 0 1 1;").due("fog 1 1 0 = 8", "fog 0 0 0 = 0");
    Calls.at("as many as cells", "port 3 3;fog 0 0 0 0 9;steamer 0 1 1;").due("fog 1 1 0 = 1", "fog 2 2 0 = 1",
        "sums 0 0 = 9");
    Calls.at("one left over", "port 3 3;fog 0 0 0 0 10;steamer 0 1 1;").due("fog 1 1 0 = 2", "fog 0 0 0 = 1");
    Calls.at("nothing to mix", "port 3 3;steamer 0 1 1;").due("sums 0 0 = 0");
    int[][] cells = {{0, 0, 4}, {8, 0, 4}, {0, 8, 4}, {8, 8, 4}, {4, 0, 6}, {0, 4, 6}, {8, 4, 6}, {4, 8, 6}, {4, 4, 9},
        {7, 7, 9}, {1, 1, 9}};
    for (int[] one : cells) {
      String at = one[0] + " " + one[1];
      int share = 99 / one[2];
      int own = 99 - share * (one[2] - 1);
      Calls.at("on " + at, "port 9 9;fog " + at + " " + at + " 99;steamer 0 " + at + ";").due("fog " + at + " 0 = " + own,
          "sums 0 0 = 99", "fog " + (one[0] == 0 ? 1 : one[0] - 1) + " " + (one[1] == 0 ? 1 : one[1] - 1) + " 0 = " + share);
    }
    // a ring of 7 about nine cells without any
    Calls ring = Calls.at("only the 8 about it", "port 5 5;fog 0 0 4 4 7;steamer 0 2 2;");
    for (int x = 1; x <= 3; x++) {
      for (int y = 1; y <= 3; y++) {
        ring.due("set " + x + " " + y + " 0 = 7");
      }
    }
    ring.due("sums 0 0 = 112", "fog 2 2 0 = 0", "fog 0 1 0 = 7", "fog 4 4 0 = 7");
    Calls.at("in step 0 alone", "port 3 3;fog 0 0 0 0 9;steamer 0 1 1;wind 1 2 1 8;").due("fog 2 2 0 = 1",
        "fog 0 2 1 = 0", "fog 1 2 1 = 1");
    Calls.at("in step 39 alone", "port 3 3;fog 0 0 0 0 9;steamer 39 1 1;").due("fog 0 0 38 = 9", "fog 0 0 39 = 1");
    Calls.at("two of one step, as told", "port 5 2;fog 0 0 0 0 60;steamer 3 0 0;steamer 3 2 0;").due("fog 0 0 3 = 15",
        "fog 1 0 3 = 5", "fog 3 1 3 = 5", "fog 2 0 3 = 5", "fog 4 0 3 = 0");
    Calls.at("the other way round", "port 5 2;fog 0 0 0 0 60;steamer 3 2 0;steamer 3 0 0;").due("fog 0 0 3 = 15",
        "fog 1 0 3 = 15", "fog 2 0 3 = 0");
  }

  private static void spill() {
    Calls four = Calls.at("above 99", "port 2 2;fog 0 0 1 1 99;steamer 0 1 1;");
    // 393, 394, 395 and 396 yards by four: 99, 100, 101 and 99 stand on its own cell
    int[] gone = {0, 1, 2, 0};
    for (int i = 0; i < 4; i++) {
      four.due("set 0 0 " + (96 + i) + " = " + (i == 0 ? 99 : 95 + i), "fog 1 1 0 = 99", "sums 0 1 = " + gone[i],
          "fog 0 0 0 = " + (i == 3 ? 99 : 98), "sums 39 1 = " + gone[i]);
    }
    Calls lamp = Calls.at("ahead of the lamps", "port 2 2;fog 0 0 1 1 99;steamer 0 1 1;lamp 1 1 20;thin 0 9;");
    lamp.due("set 0 0 98 = 99", "sums 0 1 = 2", "sums 0 2 = 80", "fog 1 1 0 = 70", "fog 0 0 0 = 69", "sums 0 3 = 36");
    Calls.at("wind alone: 99 at most", "port 3 2;fog 0 0 2 1 99;wind 0 2 1 7;").due("fog 1 0 0 = 99", "fog 0 0 0 = 13",
        "sums 0 1 = 172");
  }

  private static void lamps() {
    int[][] cells = {{0, 0, 4}, {8, 0, 4}, {0, 8, 4}, {8, 8, 4}, {4, 0, 6}, {0, 4, 6}, {8, 4, 6}, {4, 8, 6}, {4, 4, 9},
        {7, 7, 9}};
    for (int[] one : cells) {
      String at = one[0] + " " + one[1];
      Calls.at("lamp on " + at, "port 9 9;fog 0 0 8 8 30;lamp " + at + " 20;").due("led 0 0 = " + 20 * one[2],
          "led 0 1 = " + 30 * one[2], "led 0 39 = " + 30 * one[2], "sums 0 2 = " + 20 * one[2], "whose " + at + " = 0",
          "sums 39 0 = " + 30 * (81 - one[2]));
    }
    Calls.at("the least", "port 3 3;fog 0 0 2 2 3;lamp 1 1 1;").due("led 0 0 = 9", "led 0 2 = 27", "led 0 3 = 27");
    Calls.at("what it has", "port 3 3;fog 0 0 0 0 3;fog 1 0 1 0 4;fog 2 0 2 0 5;lamp 1 1 4;").due("fog 0 0 0 = 0",
        "fog 1 0 0 = 0", "fog 2 0 0 = 1", "led 0 0 = 11", "led 0 1 = 12");
    Calls.at("by number", "port 3 3;fog 1 1 1 1 5;lamp 0 0 3;lamp 2 2 4;lamp 1 1 2;").due("led 0 0 = 3", "led 1 0 = 2",
        "led 2 0 = 0", "led 0 39 = 3", "led 1 39 = 2", "led 2 39 = 0", "whose 1 1 = 0", "whose 0 0 = -1");
    Calls.at("most in all, not first", "port 3 3;fog 1 1 1 1 9;lamp 0 0 2;lamp 2 2 3;").due("whose 1 1 = 1",
        "led 0 0 = 2", "led 0 1 = 4", "led 1 0 = 3", "led 1 1 = 5");
    Calls.at("alike: the first", "port 3 3;fog 1 1 1 1 8;lamp 0 0 2;lamp 2 2 2;").due("whose 1 1 = 0");
    Calls.at("none did", "port 3 3;fog 1 1 1 1 9;lamp 0 0 2;").due("whose 2 2 = -1", "whose 0 1 = -1");
    Calls.at("fog that comes to a lamp in 39", "port 3 2;fog 0 0 0 0 9;wind 39 2 1 8;lamp 2 1 2;").due("led 0 38 = 0",
        "led 0 39 = 2", "whose 1 0 = 0");
  }

  private static void thin() {
    Calls.at("nothing ahead of any", "port 2 2;fog 0 0 0 0 99;thin 3 9;").due("fog 0 0 2 = 99", "fog 0 0 3 = 90",
        "fog 0 0 13 = 0", "sums 39 3 = 99");
    Calls.at("without", "port 2 2;fog 0 0 0 0 99;").due("sums 39 3 = 0", "sums 39 0 = 99");
    Calls.at("what it has", "port 2 2;fog 0 0 0 0 8;fog 1 0 1 0 9;fog 0 1 0 1 10;thin 0 9;").due("fog 0 0 0 = 0",
        "fog 1 0 0 = 0", "fog 0 1 0 = 1", "sums 0 3 = 26", "sums 1 3 = 27", "sums 39 3 = 27");
    Calls.at("in step 39", "port 2 2;fog 0 0 0 0 9;thin 39 1;").due("sums 38 3 = 0", "sums 39 3 = 1");
    Calls.at("of one the last", "port 2 2;fog 0 0 0 0 9;thin 0 9;thin 0 0;").due("sums 39 3 = 0");
    Calls.at("told the other way round", "port 2 2;fog 0 0 0 0 99;thin 2 5;thin 0 1;").due("fog 0 0 1 = 97",
        "fog 0 0 2 = 92");
    Calls.at("no more from 1 on", "port 2 2;fog 0 0 0 0 99;thin 0 9;thin 1 0;").due("fog 0 0 39 = 90");
  }

  private static void order() {
    // wind ahead of the steamer, the steamer ahead of the lamp, the lamp ahead of the thinning
    Calls.at("wind, steamers, lamps, thin", "port 4 2;fog 0 0 0 0 60;wind 0 2 1 8;steamer 0 2 0;lamp 3 1 5;thin 0 6;")
        .due("fog 0 0 0 = 0", "fog 1 0 0 = 4", "fog 2 0 0 = 0", "fog 3 1 0 = 0", "sums 0 2 = 20", "sums 0 3 = 32",
            "sums 0 0 = 8", "sums 0 1 = 0");
    Calls.at("a step of nothing", "port 4 2;").due("sums 39 0 = 0", "sums 39 1 = 0", "sums 39 2 = 0", "sums 39 3 = 0",
        "sums -1 0 = 0", "sums -1 1 = 0", "sums -1 2 = 0", "sums -1 3 = 0");
    Calls sums = Calls.at("it adds up", "port 3 3;fog 0 0 2 2 99;wind 0 2 2 3;wind 7 0 0 5;steamer 3 1 1;lamp 2 0 3;"
        + "thin 9 2;steamer 3 0 0;");
    for (int s = -1; s < 40; s++) {
      int together = 0;
      for (int what = 0; what < 4; what++) {
        together += Integer.parseInt(sums.answer("sums " + s + " " + what));
      }
      Check.same("it adds up behind " + s, together, 891);
    }
  }

  /** What was reckoned ahead of a set is reckoned again behind it. */
  private static void set() {
    Calls calls = Calls.at("set", "port 4 2;fog 0 0 0 0 8;wind 0 2 1 8;wind 2 1 1 0;lamp 3 0 5;lot 0 0 0 1 1 1;"
        + "lot 1 0 1 1 1 3;");
    String[] asked = {"led 0 39 = ", "whose 2 0 = ", "leaks 0 1 0 = ", "leaks 0 1 1 = ", "net 1 = ", "calm 0 = ",
        "fog 1 0 0 = ", "sums 1 2 = ", "sums 39 0 = "};
    int[][] answers = {{8, 0, 8, 24, 24, 2, 8, 5, 0}, {0, -1, 0, 0, 0, 0, 0, 0, 0}, {99, 0, 99, 297, 297, 2, 99, 5, 0},
        {8, 0, 8, 24, 24, 2, 8, 5, 0}};
    String[] sets = {"set 0 0 8 = 8", "set 0 0 0 = 8", "set 0 0 99 = 0", "set 0 0 8 = 99"};
    for (int i = 0; i < 4; i++) {
      calls.due(sets[i]);
      for (int j = 0; j < asked.length; j++) {
        calls.due(asked[j] + answers[i][j]);
      }
    }
    calls.due("set 3 1 100 = bad", "set 3 1 -1 = bad", "set 4 0 0 = cell", "sums -1 0 = 8", "set 3 1 99 = 0",
        "sums -1 0 = 107", "set 3 1 0 = 99", "sums -1 0 = 8");
  }

  private static void calm() {
    Calls.at("always moved", "port 9 2;fog 0 0 8 1 99;wind 0 2 1 1;").due("calm 0 = -1", "calm 39 = -1");
    Calls.at("never moved", "port 9 2;fog 0 0 8 1 99;").due("calm 0 = 0", "calm 1 = 1", "calm 39 = 39");
    Calls.at("no fog", "port 9 2;wind 0 2 1 8;").due("calm 0 = 0", "calm 39 = 39");
    Calls.at("off the port is moved, too", "port 2 2;fog 1 1 1 1 9;wind 3 2 1 8;").due("calm 3 = 4", "calm 0 = 0");
    Calls.at("in 39 alone", "port 2 2;fog 0 0 0 0 9;wind 0 2 1 0;wind 39 2 1 8;").due("calm 38 = 38", "calm 39 = -1");
    Calls.at("a lamp moves nothing", "port 2 2;fog 0 0 0 0 9;lamp 0 0 1;thin 0 1;steamer 0 0 0;").due("calm 0 = 0");
  }

  private static void thick() {
    Calls.at("row by row", "port 3 3;fog 0 1 0 1 5;fog 1 0 1 0 5;").due("thick -1 = 1", "thick 39 = 1", "set 1 0 4 = 5",
        "thick -1 = 10", "thick 0 = 10");
    Calls.at("the last cell", "port 9 9;fog 8 8 8 8 1;").due("thick -1 = 88", "thick 39 = 88");
    Calls.at("without fog", "port 9 9;").due("thick -1 = 0", "thick 39 = 0");
    Calls.at("in its step", "port 3 3;fog 0 0 0 0 5;wind 39 2 1 8;").due("thick 38 = 0", "thick 39 = 1");
  }

  // ---- DRAWS ----

  /** The SEED that becomes a number by one DRAW. */
  private static int seedOf(long becomes) {
    return BigInteger.valueOf(becomes).subtract(MORE).multiply(TIMES.modInverse(WRAP)).mod(WRAP).intValue();
  }

  /** The DRAW of a STEP, worked out by numbers that do not wrap of themselves. */
  static int draw(int seed, int step) {
    BigInteger now = BigInteger.valueOf(seed);
    for (int s = 0; s <= step; s++) {
      now = now.multiply(TIMES).add(MORE).mod(WRAP);
    }
    return now.shiftRight(16).intValue() & 7;
  }

  /** A wind in one STEP alone, in doubt by each Q: it is turned, if the DRAW of this STEP is below Q. */
  private static void draws() {
    int[] seeds = {0, 1, -1, Integer.MIN_VALUE, Integer.MAX_VALUE, 1234567, -987654321, seedOf(0x2ffffL),
        seedOf(0x50000L), seedOf(0xffffffffL), seedOf(0), seedOf(0x7ffff0000L), seedOf(0x80000000L)};
    for (int step : new int[] {0, 1, 2, 9, 38, 39}) {
      String end = step == 39 ? "" : "wind " + (step + 1) + " 1 1 0;";
      Calls calls = Calls.at("wind in " + step, "port 3 3;fog 1 1 1 1 9;wind " + step + " 2 1 8;" + end);
      for (int seed : seeds) {
        int drawn = draw(seed, step);
        for (int q = 0; q <= 8; q++) {
          int y = drawn < q ? 2 : 1;
          calls.due("doubt 2 " + y + " " + step + " " + seed + " " + q + " = 9", "doubt 2 " + y + " 39 " + seed + " " + q
              + " = 9");
        }
      }
    }
  }

  private static void turns() {
    for (int i = 0; i < 8; i++) {
      int[] way = RING[i];
      int[] right = RING[(i + 1) % 8];
      Calls.at("an eighth to the right", "port 3 3;fog 1 1 1 1 9;wind 0 " + way[0] + " " + way[1] + " 8;")
          .due("doubt " + way[0] + " " + way[1] + " 0 3 0 = 9", "doubt " + right[0] + " " + right[1] + " 0 3 8 = 9");
    }
    Calls.at("no way stays none", "port 3 3;fog 1 1 1 1 9;wind 0 1 1 8;").due("doubt 1 1 39 3 8 = 9");
    Calls.at("no wind, no turn", "port 3 3;fog 1 1 1 1 9;").due("doubt 1 1 39 3 8 = 9");
    Calls.at("no parts, no turn", "port 3 3;fog 1 1 1 1 9;wind 0 2 1 0;").due("doubt 1 1 39 3 8 = 9");
  }

  /** What a doubt, a light or a duel tried is left in none of the next. */
  private static void doubt() {
    Calls calls = Calls.at("one behind another", "port 3 3;fog 0 0 0 0 8;fog 2 0 2 0 8;wind 0 1 2 8;ship 0 0;");
    for (int i = 0; i < 2; i++) {
      // southward, or to the south-west off the port
      calls.due("light 0 1 1 = 2", "light 0 1 0 = 0", "doubt 0 1 0 5 0 = 8", "doubt 2 2 1 5 0 = 8", "doubt 1 1 0 5 8 = 8",
          "doubt 0 1 0 5 8 = 0", "light 0 1 1 = 2", "light 0 1 0 = 0", "doubt 1 1 0 5 8 = 8", "fog 0 1 0 = 8",
          "ship 0 = 2");
      calls.due("gauge 0 2 1 0 = 1", "gauge 2 2 1 8 = 2", "doubt 1 1 0 5 8 = 8", "found 0 = 2", "found 2 = 10",
          "clear = 2", "gauge 0 2 1 0 = 1", "gauge 2 2 1 8 = 2", "light 0 20 1 = 0", "found 0 = 2", "found 1 = 0",
          "doubt 2 2 1 5 0 = 8", "clear = 2", "set 1 2 3 = 0", "set 1 2 0 = 3");
    }
    Calls.at("at first", "port 3 3;fog 0 0 0 0 8;").due("doubt 0 0 -1 5 4 = bad", "doubt 0 0 40 5 4 = bad",
        "doubt 3 0 0 5 4 = cell", "doubt 0 0 0 5 9 = bad", "doubt 0 0 0 5 -1 = bad");
  }
}

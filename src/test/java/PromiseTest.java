/** Promise by promise: ordinary calls, the edges the document names, and wrong arguments; worked out by hand. */
public final class PromiseTest {
  private static final int NONE = -1;

  private PromiseTest() {
  }

  public static void main(String[] args) {
    texts();
    fogs();
    eyes();
    lots();
    bids();
    ships();
    gauges();
    doubts();
    rules();
    more();
    firstAndLastStep();
    lowerRows();
    images();
    Check.end("PromiseTest");
  }

  private static void texts() {
    newObject();
    feed();
    port();
    fault();
    told();
  }

  private static void fogs() {
    fog();
    windByParts();
    steamers();
    spill();
    lampsAndThin();
    sums();
    set();
    led();
    whose();
  }

  private static void eyes() {
    line();
    where();
    seesAndOften();
    seenAndCould();
    buy();
    way();
  }

  // ==== 1 to 5 ====

  private static void newObject() {
    HarbourFog f = new HarbourFog();
    int[] told = {6, 5, 0, 0, 0, 0, 0, 20, 0, 0};
    for (int i = 0; i < told.length; i++) {
      int what = i;
      Check.is("new told " + i, told[i], () -> f.told(what));
    }
    Check.is("new fault", NONE, f::fault);
    Check.is("new fog", 0, () -> f.fog(5, 4, 39));
    Check.cell("new fog beyond", () -> f.fog(6, 0, 0));
    Check.cell("new fog below", () -> f.fog(0, 5, 0));
    Check.is("new right", true, f::right);
    Check.is("new found", 1200, () -> f.found(0));
    Check.is("new guards", 0, f::guards);
    Check.is("new clear", 0, f::clear);
    Check.is("new restore", NONE, f::restore);
    Check.is("new images", 0, () -> f.count(0));
    Check.is("new tape", 0, () -> f.count(1));
    Check.is("new calm", 0, () -> f.calm(0));
    Check.same("NONE", HarbourFog.NONE, -1);
    HarbourFog g = new HarbourFog();
    for (int i = 0; i < 3; i++) {
      int what = i;
      Check.is("new status " + i, 0, () -> g.status(what));
    }
  }

  private static void feed() {
    HarbourFog f = new HarbourFog();
    Check.is("feed s", 20, () -> f.feed(0x73696768, 0x74203739, 0x3b000000, -1, -2));
    Check.is("feed order", 0, () -> f.port(9));
    Check.is("feed order, sight", 79, () -> f.told(7));
    for (int i = 1; i <= 30; i++) {
      int bytes = 20 * i;
      Check.is("feed " + i, bytes, () -> f.feed(0x20202020, 0x20202020, 0x20202020, 0x20202020, 0x20202020));
    }
    Check.is("feed 31", NONE, () -> f.feed(1, 2, 3, 4, 5));
    Check.is("feed 31 did nothing", 600, () -> f.count(1));
    Check.is("feed 31 wrote nothing", 0, () -> f.port(600));
    Check.is("a byte above 127", 20, () -> f.feed(0xe9202020, 0, 0, 0, 0));
    Check.is("a byte above 127 can't stand", -9, () -> f.port(4));
    Check.is("its place", 0, f::fault);
  }

  private static void port() {
    HarbourFog f = new HarbourFog();
    Check.is("port lots", 2, () -> Check.port(f, "lot 0 0 0 0 1 2;lot 1 1 1 1 3 4;walk 0 0 0 o;"));
    f.bid(0, 5, 5);
    f.gauge(0, 0, 0, 0);
    f.image();
    Check.is("rule", 1, () -> Check.rule(f, "first 7;"));
    Check.feed(f, "port 2 2;rubbish");
    Check.bad("port, n below 0", () -> f.port(-1));
    Check.bad("port, n beyond", () -> f.port(21));
    Check.is("the tape stays", 20, () -> f.count(1));
    Check.is("a fault", -9, () -> f.port(20));
    Check.is("its place", 9, f::fault);
    Check.is("the tape is empty", 0, () -> f.count(1));
    Check.is("the port stays", 6, () -> f.told(0));
    Check.is("lots stay", 2, () -> f.told(3));
    Check.is("bids stay", 1, () -> f.told(8));
    Check.is("gauges stay", 1, () -> f.told(9));
    Check.is("images stay", 1, () -> f.count(0));
    Check.is("the rule stays", 7, () -> f.let(0, 0, 1));
    Check.feed(f, "lot 0 0 1 1 1 1;;;;;");
    Check.is("the first bytes are the port", 1, () -> f.port(16));
    Check.is("the whole tape is empty", 0, () -> f.count(1));
    Check.is("no bids", 0, () -> f.told(8));
    Check.is("no gauges", 0, () -> f.told(9));
    Check.is("no images", 0, () -> f.count(0));
    f.bid(0, 5, 5);
    Check.is("no rule", 5, () -> f.let(0, 0, 1));
    Check.is("an empty port", 0, () -> f.port(0));
    Check.is("an empty port has no lots", 0, () -> f.told(3));
    Check.is("only bad n is refused", 2, () -> f.status(2));
  }

  private static void fault() {
    HarbourFog f = new HarbourFog();
    Check.port(f, "sight 0;");
    Check.is("fault", 6, f::fault);
    Check.bad("no text", () -> f.rule(1));
    Check.is("fault of the latest text", 6, f::fault);
    Check.rule(f, "pay ;");
    Check.is("fault of a rule", 4, f::fault);
    f.rule(0);
    Check.is("fault without", NONE, f::fault);
    Check.rule(f, "pay 1;x");
    Check.is("fault of a rule again", 6, f::fault);
    f.port(0);
    Check.is("fault without again", NONE, f::fault);
  }

  private static void told() {
    HarbourFog f = Check.at("port 9 7;lamp 0 0 1;lamp 0 0 1;lot 0 0 0 0 0 0;lot 1 0 1 0 0 0;lot 2 0 2 0 0 0;"
        + "walk 0 0 0 o;walk 0 0 0 o;walk 0 0 0 o;walk 0 0 0 o;watch 0 0;ship 0 0;ship 1 0;sight 5;sight 33;");
    f.bid(0, 1, 1);
    f.gauge(0, 0, 0, 0);
    f.gauge(0, 0, 0, 0);
    int[] told = {9, 7, 2, 3, 4, 1, 2, 33, 1, 2};
    for (int i = 0; i < told.length; i++) {
      int what = i;
      Check.is("told " + i, told[i], () -> f.told(what));
    }
    Check.bad("told -1", () -> f.told(-1));
    Check.bad("told 10", () -> f.told(10));
  }

  // ==== 6 to 10: FOG ====

  private static void fog() {
    HarbourFog f = Check.at("port 3 2;fog 0 0 0 0 9;wind 0 2 1 3;");
    int[][] row = {{9, 0, 0}, {6, 3, 0}, {4, 4, 1}, {3, 4, 2}};
    for (int s = -1; s < 3; s++) {
      for (int x = 0; x < 3; x++) {
        int a = x;
        int b = s;
        Check.is("fog " + x + " in " + s, row[s + 1][x], () -> f.fog(a, 0, b));
      }
    }
    Check.cell("fog x", () -> f.fog(3, 0, 0));
    Check.cell("fog x below 0", () -> f.fog(-1, 0, 0));
    Check.cell("fog y", () -> f.fog(0, 2, 0));
    Check.cell("fog y below 0", () -> f.fog(0, -1, 0));
    Check.bad("fog step 40", () -> f.fog(0, 0, 40));
    Check.bad("fog step -2", () -> f.fog(0, 0, -2));
    Check.cell("fog cell ahead of step", () -> f.fog(3, 0, 40));
    HarbourFog g = Check.at("port 3 3;fog 0 1 2 1 60;fog 1 0 1 2 50;");
    Check.is("two banks", 99, () -> g.fog(1, 1, -1));
    Check.is("one bank across", 60, () -> g.fog(2, 1, -1));
    Check.is("one bank down", 50, () -> g.fog(1, 2, -1));
    Check.is("no bank", 0, () -> g.fog(2, 2, -1));
    Check.is("without wind it stays", 60, () -> g.fog(2, 1, 39));
  }

  private static void windByParts() {
    HarbourFog f = Check.at("port 5 2;fog 2 0 2 0 40;wind 3 0 1 8;wind 1 1 1 8;wind 1 2 1 8;wind 2 1 1 8;");
    Check.is("no wind ahead of any", 40, () -> f.fog(2, 0, 0));
    Check.is("of one step the last", 40, () -> f.fog(3, 0, 1));
    Check.is("no way", 40, () -> f.fog(3, 0, 2));
    Check.is("from step 3 on, though told first", 40, () -> f.fog(2, 0, 3));
    Check.is("it goes on", 40, () -> f.fog(0, 0, 5));
    Check.is("off the port", 40, () -> f.sums(6, 1));
    Check.is("nothing is left", 0, () -> f.sums(6, 0));
    HarbourFog g = Check.at("port 3 3;fog 1 1 1 1 9;wind 0 2 0 8;");
    Check.is("up and to the right", 9, () -> g.fog(2, 0, 0));
    HarbourFog h = Check.at("port 3 3;fog 1 1 1 1 9;wind 0 0 2 4;");
    Check.is("down and to the left, cut", 4, () -> h.fog(0, 2, 0));
    Check.is("what stays", 5, () -> h.fog(1, 1, 0));
    HarbourFog z = Check.at("port 3 3;fog 1 1 1 1 9;wind 0 2 1 0;");
    Check.is("no parts", 9, () -> z.fog(1, 1, 39));
  }

  private static void steamers() {
    HarbourFog f = Check.at("port 3 3;fog 1 1 1 1 29;steamer 1 1 1;");
    Check.is("ahead of its step", 29, () -> f.fog(1, 1, 0));
    Check.is("parted alike", 3, () -> f.fog(2, 0, 1));
    Check.is("what is left over", 5, () -> f.fog(1, 1, 1));
    Check.is("once", 5, () -> f.fog(1, 1, 2));
    HarbourFog g = Check.at("port 3 3;fog 1 1 1 1 30;steamer 0 0 0;steamer 0 2 0;");
    // 30 by 4 are 7, 9 on its own; then 7 and 7 of the middle column by 4 are 3, 5 on its own
    Check.is("in the corner", 9, () -> g.fog(0, 0, 0));
    Check.is("as told", 3, () -> g.fog(1, 0, 0));
    Check.is("second, its own", 5, () -> g.fog(2, 0, 0));
    Check.is("only about it", 0, () -> g.fog(1, 2, 0));
    HarbourFog h = Check.at("port 4 2;fog 0 0 0 0 40;wind 0 2 1 8;steamer 0 0 0;");
    Check.is("behind the wind", 10, () -> h.fog(1, 1, 0));
  }

  private static void spill() {
    HarbourFog f = Check.at("port 3 3;fog 0 0 2 2 99;steamer 0 1 1;lamp 0 0 20;thin 0 2;");
    f.set(2, 2, 98);
    // 890 by 9: 98 each, 106 on its own: 7 are gone ahead of the lamp's 20 and the thinning's 2
    Check.is("above 99", 77, () -> f.fog(1, 1, 0));
    Check.is("gone at once", 7, () -> f.sums(0, 1));
    Check.is("burned", 80, () -> f.sums(0, 2));
    Check.is("thinned", 18, () -> f.sums(0, 3));
    Check.is("all", 890 - 7 - 80 - 18, () -> f.sums(0, 0));
    HarbourFog g = Check.at("port 3 3;fog 0 0 2 2 99;steamer 0 1 1;steamer 0 0 0;");
    g.set(2, 2, 98);
    // behind the first one 106 stand in the middle, and only then are parted: 98 * 3 + 106 = 400
    Check.is("between steamers nothing is gone", 100 * 4 + 98 * 5, () -> g.sums(0, 0) + g.sums(0, 1));
    Check.is("one above 99 on each of four", 4, () -> g.sums(0, 1));
  }

  private static void lampsAndThin() {
    HarbourFog f = Check.at("port 4 4;fog 0 0 3 3 9;lamp 0 0 5;lamp 1 1 6;thin 1 2;");
    Check.is("one lamp", 3, () -> f.fog(2, 2, 0));
    Check.is("both lamps", 0, () -> f.fog(1, 1, 0));
    Check.is("no lamp", 9, () -> f.fog(3, 3, 0));
    Check.is("thin from its step on", 7, () -> f.fog(3, 3, 1));
    Check.is("thin again", 1, () -> f.fog(3, 3, 4));
    Check.is("thin, what it has", 0, () -> f.fog(3, 3, 5));
    HarbourFog g = Check.at("port 2 2;fog 0 0 0 0 90;thin 2 9;thin 0 1;thin 2 3;thin 5 0;");
    Check.is("thin 0", 89, () -> g.fog(0, 0, 0));
    Check.is("thin 2, the last", 85, () -> g.fog(0, 0, 2));
    Check.is("thin 5, none", 79, () -> g.fog(0, 0, 39));
  }

  private static void sums() {
    HarbourFog f = Check.at("port 2 2;fog 0 0 1 1 20;wind 1 0 1 2;lamp 0 0 3;thin 2 1;");
    Check.is("sums at first", 80, () -> f.sums(-1, 0));
    Check.is("gone at first", 0, () -> f.sums(-1, 1));
    Check.is("burned at first", 0, () -> f.sums(-1, 2));
    Check.is("thin at first", 0, () -> f.sums(-1, 3));
    Check.is("sums 0", 68, () -> f.sums(0, 0));
    Check.is("burned 0", 12, () -> f.sums(0, 2));
    // 17 each: 4 go; two off the port
    Check.is("gone 1", 8, () -> f.sums(1, 1));
    Check.is("burned 1", 24, () -> f.sums(1, 2));
    Check.is("sums 1", 48, () -> f.sums(1, 0));
    // left 14, right 10: 3 and 2 go; left 13, right 8, then 3 burned, 1 thin
    Check.is("gone 2", 14, () -> f.sums(2, 1));
    Check.is("burned 2", 36, () -> f.sums(2, 2));
    Check.is("thin 2", 4, () -> f.sums(2, 3));
    Check.is("sums 2", 26, () -> f.sums(2, 0));
    for (int s = -1; s < 40; s++) {
      int b = s;
      Check.is("it adds up in " + s, 80, () -> f.sums(b, 0) + f.sums(b, 1) + f.sums(b, 2) + f.sums(b, 3));
    }
    Check.bad("sums step", () -> f.sums(40, 0));
    Check.bad("sums step below", () -> f.sums(-2, 0));
    Check.bad("sums what", () -> f.sums(0, 4));
    Check.bad("sums what below", () -> f.sums(0, -1));
  }

  private static void set() {
    HarbourFog f = Check.at("port 3 2;fog 0 0 0 0 9;wind 0 2 1 8;");
    Check.is("fog, reckoned before", 9, () -> f.fog(1, 0, 0));
    Check.is("set", 9, () -> f.set(0, 0, 99));
    Check.is("set, at first", 99, () -> f.fog(0, 0, -1));
    Check.is("set, later", 99, () -> f.fog(1, 0, 0));
    Check.is("set again", 99, () -> f.set(0, 0, 0));
    Check.is("set to nothing", 0, () -> f.sums(3, 0));
    Check.bad("set 100", () -> f.set(0, 0, 100));
    Check.bad("set -1", () -> f.set(0, 0, -1));
    Check.cell("set beyond", () -> f.set(3, 0, 100));
    Check.is("a refused set does nothing", 0, () -> f.fog(0, 0, -1));
  }

  private static void led() {
    HarbourFog f = Check.at("port 2 2;fog 0 0 0 0 7;lamp 0 0 3;lamp 1 1 3;");
    Check.is("led 0 in 0", 3, () -> f.led(0, 0));
    Check.is("led 1 in 0", 3, () -> f.led(1, 0));
    Check.is("led 0 up to 1", 4, () -> f.led(0, 1));
    Check.is("led 1 up to 1", 3, () -> f.led(1, 1));
    Check.is("led 0 up to 39", 4, () -> f.led(0, 39));
    Check.none("led 2", () -> f.led(2, 0));
    Check.none("led -1", () -> f.led(-1, 0));
    Check.bad("led 40", () -> f.led(0, 40));
    Check.bad("led at first", () -> f.led(0, -1));
    Check.none("led, no lamp ahead of step", () -> f.led(2, 40));
  }

  private static void whose() {
    HarbourFog f = Check.at("port 6 2;fog 0 0 5 0 12;lamp 0 0 2;lamp 2 0 2;lamp 2 1 5;");
    Check.is("whose, one lamp", 0, () -> f.whose(0, 0));
    Check.is("whose, the most", 2, () -> f.whose(2, 0));
    // 2 + 2 + 5 and then 2 + 1: lamp 0 four, lamp 1 three, lamp 2 five
    Check.is("whose, in all", 2, () -> f.whose(1, 0));
    Check.is("whose, no lamp", NONE, () -> f.whose(5, 0));
    Check.is("whose, no fog", NONE, () -> f.whose(1, 1));
    Check.cell("whose beyond", () -> f.whose(6, 0));
    HarbourFog g = Check.at("port 2 2;fog 0 0 0 0 8;lamp 0 0 4;lamp 0 0 4;");
    Check.is("whose, of alike ones the first", 0, () -> g.whose(0, 0));
  }

  // ==== 11 to 18: WALKERS and WATCHES ====

  private static void line() {
    HarbourFog f = Check.at("port 5 4;fog 0 0 4 3 1;fog 1 1 1 1 10;fog 2 1 2 1 20;thin 1 1;");
    Check.is("line in a row", 34, () -> f.line(0, 1, 3, 1, 0));
    Check.is("line backwards", 34, () -> f.line(3, 1, 0, 1, 0));
    Check.is("line in a column", 14, () -> f.line(1, 3, 1, 0, 0));
    Check.is("line in a slant", 14, () -> f.line(0, 0, 3, 3, 0));
    Check.is("line in the other slant", 24, () -> f.line(0, 3, 3, 0, 0));
    Check.is("one cell", 11, () -> f.line(1, 1, 1, 1, 0));
    Check.is("no line", NONE, () -> f.line(0, 0, 2, 1, 0));
    Check.is("behind the step", 30, () -> f.line(0, 1, 3, 1, 1));
    Check.cell("line from beyond", () -> f.line(5, 0, 0, 0, 0));
    Check.cell("line to beyond", () -> f.line(0, 0, 0, 4, 0));
    Check.cell("line, cell ahead of step", () -> f.line(0, 0, -1, 0, 40));
    Check.bad("line step", () -> f.line(0, 0, 0, 0, 40));
    Check.bad("line at first", () -> f.line(0, 0, 0, 0, -1));
    Check.bad("no line, step", () -> f.line(0, 0, 2, 1, -1));
  }

  private static void where() {
    HarbourFog f = Check.at("port 4 4;walk 1 1 3 nesswo;walk 3 3 36 oonwnns;");
    int[] path = {11, 1, 2, 12, 22, 21, 21};
    for (int i = 0; i < path.length; i++) {
      int k = i;
      Check.is("where " + i, path[i], () -> f.where(0, 3 + k));
    }
    Check.is("where, ahead", NONE, () -> f.where(0, 2));
    Check.is("where, behind", NONE, () -> f.where(0, 10));
    Check.is("where at 39", 23, () -> f.where(1, 39));
    Check.none("where 2", () -> f.where(2, 0));
    Check.none("where -1", () -> f.where(-1, 0));
    Check.bad("where 40", () -> f.where(0, 40));
    Check.bad("where at first", () -> f.where(0, -1));
  }

  private static void seesAndOften() {
    HarbourFog f = Check.at("port 4 4;fog 0 0 3 3 5;sight 15;walk 0 0 0 eeo;walk 2 0 1 soo;");
    // step 1: (1,0) and (2,0): 10; step 2: (2,0) and (2,1): 10; step 3: there only the second, and the first till 3
    Check.is("not yet there", false, () -> f.sees(0, 1, 0));
    Check.is("sees", true, () -> f.sees(0, 1, 1));
    Check.is("sees the other way", true, () -> f.sees(1, 0, 1));
    Check.is("sees 3", true, () -> f.sees(0, 1, 3));
    Check.is("gone", false, () -> f.sees(0, 1, 4));
    Check.is("often", 3, () -> f.often(0, 1));
    Check.is("often the other way", 3, () -> f.often(1, 0));
    f.set(2, 0, 10);
    Check.is("as much as sight is too much", false, () -> f.sees(0, 1, 1));
    Check.is("less often", 0, () -> f.often(0, 1));
    f.set(2, 0, 9);
    Check.is("a yard less", true, () -> f.sees(0, 1, 1));
    Check.none("sees 2", () -> f.sees(0, 2, 1));
    Check.none("sees from 2", () -> f.sees(2, 0, 1));
    Check.none("sees, both one that is not", () -> f.sees(2, 2, 1));
    Check.bad("sees himself", () -> f.sees(1, 1, 1));
    Check.bad("sees in 40", () -> f.sees(0, 1, 40));
    Check.bad("sees at first", () -> f.sees(0, 1, -1));
    Check.none("sees, no walker ahead of step", () -> f.sees(0, -1, 40));
    Check.bad("often himself", () -> f.often(0, 0));
    Check.none("often 2", () -> f.often(2, 2));
    HarbourFog g = Check.at("port 4 4;walk 0 0 0 o;walk 2 1 0 w;");
    Check.is("no line, no sight", 1, () -> g.often(0, 1));
  }

  private static void seenAndCould() {
    HarbourFog f = Check.at("port 4 4;sight 10;fog 1 1 1 1 9;watch 0 0;watch 3 0;watch 1 2;walk 2 2 1 wn;walk 3 3 1 o;");
    Check.is("seen, not there", 0, () -> f.seen(0, 0));
    // (2,2): from (0,0) over (1,1), 9 yards; from (3,0) no line; from (1,2) beside it
    Check.is("seen 1", 5, () -> f.seen(0, 1));
    Check.is("seen on a watch's cell, and from (3,0) by a slant", 6, () -> f.seen(0, 2));
    // (1,1): 9 on its own cell, from (0,0) and (1,2); from (3,0) no line
    Check.is("seen in fog", 5, () -> f.seen(0, 3));
    Check.is("seen, gone", 0, () -> f.seen(0, 4));
    Check.is("seen, the other", 3, () -> f.seen(1, 1));
    f.set(1, 1, 10);
    Check.is("hidden", 0, () -> f.seen(0, 3));
    Check.none("seen 2", () -> f.seen(2, 0));
    Check.bad("seen 40", () -> f.seen(0, 40));
    Check.is("could", 2, () -> f.could(3, 0, 1));
    Check.is("could, own cell", 3, () -> f.could(2, 2, 1));
    Check.is("could, none there", 0, () -> f.could(2, 2, 0));
    Check.is("could, thick", 0, () -> f.could(1, 1, 1));
    Check.cell("could beyond", () -> f.could(4, 0, 40));
    Check.bad("could 40", () -> f.could(0, 0, 40));
    Check.bad("could at first", () -> f.could(0, 0, -1));
  }

  private static void buy() {
    HarbourFog f = Check.at("port 4 4;sight 30;fog 1 0 1 0 12;fog 3 3 3 3 5;watch 0 0;"
        + "lot 2 0 2 0 4 0;lot 2 1 3 1 7 0;walk 2 0 0 ses;");
    // (2,0): 12, needs 18; (2,1): no line; (3,1): no line; (3,2): no line
    Check.is("buy", 18, () -> f.buy(0, 0));
    Check.is("cost: lots of 4, 7 and 7", 18 * 18, () -> f.buy(0, 1));
    f.set(0, 0, 29);
    Check.is("the watch's own cell counts", 0, () -> f.buy(0, 0));
    Check.is("nothing to pay", 0, () -> f.buy(0, 1));
    Check.none("buy 1", () -> f.buy(1, 0));
    Check.bad("buy what", () -> f.buy(0, 2));
    Check.bad("buy what below", () -> f.buy(0, -1));
    Check.none("buy, walker ahead of what", () -> f.buy(-1, 2));
    HarbourFog g = Check.at("port 3 3;sight 99;watch 1 1;walk 1 1 39 ooo;lot 1 1 1 1 2 0;");
    Check.is("on the watch's cell", 99, () -> g.buy(0, 0));
    Check.is("only to step 39", 198, () -> g.buy(0, 1));
    HarbourFog h = Check.at("port 3 3;sight 50;fog 0 0 2 2 5;thin 0 1;watch 0 0;watch 2 2;walk 0 2 2 oo;");
    // column of three cells: 6, 3, 0 are left behind steps 2, 3, 4
    Check.is("the least by which none sees in any step", 50, () -> h.buy(0, 0));
  }

  private static void way() {
    HarbourFog f = Check.at("port 3 3;sight 10;watch 0 0;fog 1 1 1 1 4;");
    Check.is("way", 6, () -> f.way(12, 21, 0, 2));
    Check.is("way, too short", NONE, () -> f.way(12, 21, 0, 1));
    Check.is("way, with a rest", 6, () -> f.way(12, 21, 0, 3));
    Check.is("way from the watch: 10, 10, 6, 0", 26, () -> f.way(0, 12, 0, 3));
    Check.is("way of one step", 10, () -> f.way(0, 0, 39, 0));
    Check.is("way to another cell at once", NONE, () -> f.way(0, 1, 39, 0));
    Check.is("way of twelve", 0, () -> f.way(12, 12, 27, 12));
    Check.bad("way of thirteen", () -> f.way(12, 12, 0, 13));
    Check.bad("way later below 0", () -> f.way(12, 12, 0, -1));
    Check.bad("way beyond 39", () -> f.way(12, 12, 28, 12));
    Check.bad("way step 40", () -> f.way(12, 12, 40, 0));
    Check.bad("way at first", () -> f.way(12, 12, -1, 0));
    Check.cell("way from beyond", () -> f.way(3, 12, 40, 0));
    Check.cell("way to beyond", () -> f.way(12, 30, 40, 0));
    Check.cell("way from below 0", () -> f.way(-1, 12, 0, 0));
    Check.cell("way to 9 beside", () -> f.way(12, 19, 0, 0));
    Check.cell("way from far", () -> f.way(Integer.MAX_VALUE, 0, 0, 0));
    Check.cell("way from far below", () -> f.way(0, Integer.MIN_VALUE, 0, 0));
    HarbourFog g = Check.at("port 5 2;sight 20;fog 0 0 4 1 6;thin 1 3;watch 0 0;");
    // in step 1 fog of 3 a cell, in step 0 of 6, from step 2 on none
    Check.is("way in thinning fog: 8, 14", 22, () -> g.way(1, 1, 0, 1));
    Check.is("way: 8, then 11 by (2,0), then none", 19, () -> g.way(1, 12, 0, 2));
  }

  // ==== 19 to 22: LOTS ====

  private static void lots() {
    HarbourFog f = Check.at("port 5 3;fog 0 0 1 0 16;fog 3 0 3 0 8;wind 0 2 1 4;wind 3 1 1 8;"
        + "lot 0 0 0 1 2 1;lot 1 0 2 2 3 4;lot 3 0 3 0 9 6;");
    Check.is("lot F", 3, () -> f.lot(1, 0));
    Check.is("lot D", 4, () -> f.lot(1, 1));
    Check.is("lot cells", 6, () -> f.lot(1, 2));
    Check.is("lot cells of one column", 2, () -> f.lot(0, 2));
    Check.none("lot 3", () -> f.lot(3, 0));
    Check.none("lot -1", () -> f.lot(-1, 9));
    Check.bad("lot what", () -> f.lot(0, 3));
    Check.is("yards at first", 16, () -> f.yards(1, -1));
    Check.is("yards 0", 24, () -> f.yards(1, 0));
    Check.none("yards 3", () -> f.yards(3, 0));
    Check.bad("yards 40", () -> f.yards(0, 40));
    Check.bad("yards -2", () -> f.yards(0, -2));
    // row 0: 16 16 0 8 0 > 8 16 8 4 4 > 4 12 12 6 .. > 2 8 12 9 ..
    Check.is("leaks 0 to 1", 8 + 4 + 2, () -> f.leaks(0, 1, 0));
    Check.is("leaks 1 to 2", 0 + 4 + 6, () -> f.leaks(1, 2, 0));
    Check.is("leaks 1 to 0", 0, () -> f.leaks(1, 0, 0));
    Check.is("damages 0 to 1", 14 * 4, () -> f.leaks(0, 1, 1));
    Check.is("damages 1 to 2", 10 * 6, () -> f.leaks(1, 2, 1));
    Check.is("net 0", -56, () -> f.net(0));
    Check.is("net 1", 56 - 60, () -> f.net(1));
    Check.is("net 2", 60, () -> f.net(2));
    Check.none("net 3", () -> f.net(3));
    Check.none("leaks 3", () -> f.leaks(3, 3, 0));
    Check.none("leaks to 3", () -> f.leaks(0, 3, 9));
    Check.bad("leaks to itself", () -> f.leaks(1, 1, 0));
    Check.bad("leaks what", () -> f.leaks(0, 1, 2));
    HarbourFog g = Check.at("port 4 4;fog 0 0 0 0 8;steamer 0 0 0;lot 0 0 0 0 1 1;lot 1 1 1 1 1 1;");
    Check.is("steamers are no leaks", 0, () -> g.leaks(0, 1, 0));
    worthless();
  }

  private static void worthless() {
    HarbourFog f = Check.at("port 3 2;fog 0 0 0 0 20;thin 0 2;wind 4 2 1 8;wind 5 0 1 8;lot 0 0 0 0 1 1;");
    // 18 16 14 12 | 0 (away) | 8 (back, off the port next)
    Check.is("worthless for 1", 6, () -> f.worthless(0, 1));
    Check.is("worthless for 8", 6, () -> f.worthless(0, 8));
    Check.is("worthless for 9", 4, () -> f.worthless(0, 9));
    Check.is("worthless for 12", 4, () -> f.worthless(0, 12));
    Check.is("worthless for 13", 3, () -> f.worthless(0, 13));
    Check.is("worthless for 19", 0, () -> f.worthless(0, 19));
    Check.is("worthless for 999", 0, () -> f.worthless(0, 999));
    Check.bad("worthless for 0", () -> f.worthless(0, 0));
    Check.bad("worthless for 1000", () -> f.worthless(0, 1000));
    Check.none("worthless 1", () -> f.worthless(1, 0));
    HarbourFog g = Check.at("port 3 2;fog 0 0 0 0 20;lot 0 0 0 0 1 1;");
    Check.is("never worthless", 40, () -> g.worthless(0, 20));
    Check.is("always worthless", 0, () -> g.worthless(0, 21));
  }

  // ==== 23 to 26: BIDS ====

  private static void bids() {
    HarbourFog f = Check.at("port 4 2;fog 0 0 1 0 15;thin 1 3;lot 0 0 1 0 3 0;lot 2 0 2 0 0 0;");
    Check.is("bid", 1, () -> f.bid(0, 10, 7));
    Check.is("bid 2", 2, () -> f.bid(0, 12, 9));
    Check.is("bid 3", 3, () -> f.bid(0, 999, 7));
    Check.is("bid 4", 4, () -> f.bid(0, 5, 2));
    Check.is("bid 5", 5, () -> f.bid(1, 5, 99));
    Check.none("bid on lot 2", () -> f.bid(2, 1, 1));
    Check.none("bid, lot ahead of yards", () -> f.bid(-1, 0, 0));
    Check.bad("bid 0 yards", () -> f.bid(0, 0, 1));
    Check.bad("bid 1000 yards", () -> f.bid(0, 1000, 1));
    Check.bad("bid for 0", () -> f.bid(0, 1, 0));
    Check.bad("bid for 100", () -> f.bid(0, 1, 100));
    // 30 yards: 12 at 9, 10 at 7, 8 at 7
    int[] gets = {10, 12, 8, 0, 0};
    int[] pays = {70, 108, 56, 0, 0};
    int[] alike = {70, 84, 56, 0, 0};
    for (int i = 0; i < 5; i++) {
      int k = i;
      Check.is("gets " + i, gets[i], () -> f.gets(k, 0, 0));
      Check.is("pays by way 0 " + i, pays[i], () -> f.gets(k, 0, 1));
      Check.is("pays by way 1 " + i, alike[i], () -> f.gets(k, 0, 2));
    }
    Check.is("gets, none such", NONE, () -> f.gets(5, 0, 0));
    Check.is("gets, none below 0", NONE, () -> f.gets(-1, 0, 0));
    Check.bad("gets step", () -> f.gets(5, 40, 0));
    Check.bad("gets at first", () -> f.gets(0, -1, 0));
    Check.bad("gets what", () -> f.gets(0, 0, 3));
    Check.is("sold by way 0", 234, () -> f.sold(0, 0, 0));
    Check.is("sold by way 1", 210, () -> f.sold(0, 0, 1));
    Check.is("nothing there", 0, () -> f.sold(1, 0, 0));
    // step 4: 6 yards, all to the bid of 9
    Check.is("sold less", 54, () -> f.sold(0, 4, 1));
    Check.none("sold 2", () -> f.sold(2, 0, 0));
    Check.bad("sold step", () -> f.sold(0, 40, 0));
    Check.bad("sold at first", () -> f.sold(0, -1, 0));
    Check.bad("sold way", () -> f.sold(0, 0, 2));
    for (int i = 6; i <= 12; i++) {
      int k = i;
      Check.is("bid " + i, k, () -> f.bid(0, 1, 1));
    }
    Check.is("bid 13", NONE, () -> f.bid(0, 1, 1));
    Check.bad("bid 13, refused", () -> f.bid(0, 0, 1));
    Check.is("told bids", 12, () -> f.told(8));
    when();
  }

  private static void when() {
    HarbourFog f = Check.at("port 4 2;fog 0 0 0 0 8;fog 1 0 1 0 40;wind 0 0 1 8;wind 1 2 1 8;wind 2 0 1 8;"
        + "lot 0 0 0 0 3 0;lot 3 1 3 1 0 0;");
    // lot 0: 40, 0, 40, 0 ..: of alike ones the first
    f.bid(0, 5, 4);
    f.bid(1, 5, 4);
    f.bid(0, 100, 2);
    Check.is("when", 0, () -> f.when(0, 0));
    Check.is("when by way 1", 0, () -> f.when(0, 1));
    Check.is("when, nothing", NONE, () -> f.when(1, 0));
    Check.is("what it brings: none below the floor", 20, () -> f.sold(0, 0, 0));
    Check.none("when 2", () -> f.when(2, 0));
    Check.bad("when way", () -> f.when(0, 2));
    Check.bad("when way below", () -> f.when(0, -1));
    HarbourFog g = Check.at("port 3 2;fog 0 0 0 0 30;thin 0 5;lot 0 0 0 0 1 0;");
    g.bid(0, 5, 10);
    g.bid(0, 20, 2);
    // 25: 50 + 40 or 2 each 50; 20: 50 + 30 or 40; .. 5: 50 by both
    Check.is("when by way 0", 0, () -> g.when(0, 0));
    Check.is("sold by way 0 in 0", 90, () -> g.sold(0, 0, 0));
    Check.is("when by way 1, alike", 0, () -> g.when(0, 1));
    g.bid(0, 1, 1);
    g.set(0, 0, 31);
    // 26: all pay 1, so 26; 21: 42; 16: 32; 11: 22; 6: 12; 1: 10
    Check.is("when by way 1, later", 1, () -> g.when(0, 1));
    Check.is("sold by way 1 in 1", 42, () -> g.sold(0, 1, 1));
  }

  // ==== 27 to 32: SHIPS and GAUGES ====

  private static void ships() {
    HarbourFog f = Check.at("port 3 3;fog 1 0 1 2 20;fog 1 1 1 1 7;thin 0 3;ship 1 20;ship 1 0;ship 0 0;ship 1 99;");
    // 27 in the middle: 24 21 18 15 12 9 6 3 0
    Check.is("ship", 2, () -> f.ship(0));
    Check.is("ship that needs it clear", 8, () -> f.ship(1));
    Check.is("ship in a clear column", 0, () -> f.ship(2));
    Check.is("ship that bears all", 0, () -> f.ship(3));
    Check.none("ship 4", () -> f.ship(4));
    Check.none("ship -1", () -> f.ship(-1));
    HarbourFog g = Check.at("port 3 3;fog 1 0 1 2 20;ship 1 19;");
    Check.is("ship that never comes", NONE, () -> g.ship(0));
  }

  private static void gauges() {
    HarbourFog f = Check.at("port 3 2;fog 0 0 0 0 8;wind 0 2 1 8;wind 2 1 1 8;");
    Check.is("gauge", 1, () -> f.gauge(1, 0, 0, 8));
    Check.is("right", true, f::right);
    // a duel by which the first gauge is right: not on (1,0) in 0; all else
    Check.is("found: all but one", 239, () -> f.found(0));
    Check.is("found step", 0, () -> f.found(1));
    Check.is("found cell", 0, () -> f.found(2));
    Check.is("gauge 2", 2, () -> f.gauge(2, 0, 3, 0));
    Check.is("not right", false, f::right);
    // the fog is away on (2,0) in 1, 2 or 3
    Check.is("found", 3, () -> f.found(0));
    Check.is("found step", 1, () -> f.found(1));
    Check.is("found cell", 2, () -> f.found(2));
    Check.is("gauge 3", 3, () -> f.gauge(2, 0, 2, 8));
    Check.is("found, one", 1, () -> f.found(0));
    Check.is("found, one: step", 3, () -> f.found(1));
    Check.is("gauge 4", 4, () -> f.gauge(0, 0, 39, 1));
    Check.is("found, none", 0, () -> f.found(0));
    Check.is("found, none: step", NONE, () -> f.found(1));
    Check.is("found, none: cell", NONE, () -> f.found(2));
    Check.bad("found what", () -> f.found(3));
    Check.bad("found what below", () -> f.found(-1));
    Check.cell("gauge beyond", () -> f.gauge(3, 0, 40, 0));
    Check.bad("gauge step", () -> f.gauge(0, 0, 40, 0));
    Check.bad("gauge at first", () -> f.gauge(0, 0, -1, 0));
    Check.bad("gauge 100", () -> f.gauge(0, 0, 0, 100));
    Check.bad("gauge -1", () -> f.gauge(0, 0, 0, -1));
    for (int i = 5; i <= 8; i++) {
      int k = i;
      Check.is("gauge " + i, k, () -> f.gauge(0, 0, 5, 99));
    }
    Check.is("gauge 9", NONE, () -> f.gauge(0, 0, 5, 99));
    Check.bad("gauge 9, refused", () -> f.gauge(0, 0, 5, 100));
    Check.is("clear", 8, f::clear);
    Check.is("clear, right", true, f::right);
    Check.is("clear, found", 240, () -> f.found(0));
    Check.is("clear, gauges", 0, () -> f.told(9));
    gaugesAndSet();
  }

  private static void gaugesAndSet() {
    HarbourFog f = Check.at("port 2 2;lot 0 0 0 0 0 0;");
    f.gauge(1, 1, 7, 5);
    f.bid(0, 1, 1);
    Check.is("wrong", false, f::right);
    Check.is("found none", 0, () -> f.found(0));
    f.set(1, 1, 5);
    Check.is("right by set", true, f::right);
    // 160 less those on (1,1) in 0 to 7
    Check.is("found by set", 152, () -> f.found(0));
    Check.is("clear both", 2, f::clear);
    Check.is("clear bids", 0, () -> f.told(8));
    Check.is("clear again", 0, f::clear);
  }

  // ==== 33 and 34, 40 and 41: DOUBT ====

  private static void doubts() {
    int[][] ring = {{2, 1}, {2, 2}, {1, 2}, {0, 2}, {0, 1}, {0, 0}, {1, 0}, {2, 0}, {2, 1}};
    for (int i = 0; i < 8; i++) {
      HarbourFog f = Check.at("port 3 3;fog 1 1 1 1 9;wind 0 " + ring[i][0] + " " + ring[i][1] + " 8;");
      int[] as = ring[i];
      int[] turned = ring[i + 1];
      Check.is("as told " + i, 9, () -> f.doubt(as[0], as[1], 0, 77, 0));
      Check.is("turned " + i, 9, () -> f.doubt(turned[0], turned[1], 0, 77, 8));
      Check.is("the base is as told " + i, 9, () -> f.fog(as[0], as[1], 0));
    }
    HarbourFog z = Check.at("port 3 3;fog 1 1 1 1 9;wind 0 1 1 8;");
    Check.is("no way stays none", 9, () -> z.doubt(1, 1, 39, 5, 8));
    // draws of seed 1: 6 6 1 3 3
    HarbourFog f = Check.at("port 9 9;fog 0 4 0 4 8;wind 0 2 1 8;sight 20;watch 5 8;watch 8 3;"
        + "walk 5 5 4 o;lot 0 0 0 0 0 0;");
    Check.is("seed 1, q 6: not in 0", 8, () -> f.doubt(1, 4, 0, 1, 6));
    Check.is("seed 1, q 7: in 0", 8, () -> f.doubt(1, 5, 0, 1, 7));
    Check.is("seed 1, q 2: in 2 alone", 8, () -> f.doubt(5, 5, 4, 1, 2));
    Check.is("seed 1, q 4: in 2, 3, 4", 8, () -> f.doubt(5, 7, 4, 1, 4));
    Check.is("the top bit of a seed is no bit of a draw", 8, () -> f.doubt(1, 5, 0, Integer.MIN_VALUE + 1, 7));
    Check.is("nor in other steps", 8, () -> f.doubt(5, 7, 4, Integer.MIN_VALUE + 1, 4));
    Check.cell("doubt beyond", () -> f.doubt(9, 0, 40, 1, 9));
    Check.bad("doubt step", () -> f.doubt(0, 0, 40, 1, 0));
    Check.bad("doubt at first", () -> f.doubt(0, 0, -1, 1, 0));
    Check.bad("doubt q", () -> f.doubt(0, 0, 0, 1, 9));
    Check.bad("doubt q below", () -> f.doubt(0, 0, 0, 1, -1));
    // fog is on the walker in 4, but not in 5
    Check.is("span of one seed", 20, () -> f.span(0, 1, 2, 1, 0));
    spans(f);
  }

  /** The DRAW of a STEP with a SEED, worked out in whole numbers that do not wrap. */
  private static long draw(long seed, int step) {
    long now = seed & 0xffffffffL;
    for (int s = 0; s <= step; s++) {
      java.math.BigInteger next = java.math.BigInteger.valueOf(now).multiply(java.math.BigInteger.valueOf(1103515245L));
      now = next.add(java.math.BigInteger.valueOf(12345)).mod(java.math.BigInteger.ONE.shiftLeft(32)).longValue();
    }
    return now / 65536 % 8;
  }

  private static void spans(HarbourFog far) {
    Check.none("span 1", () -> far.span(1, 1, 0, 1, 0));
    Check.none("span, walker ahead", () -> far.span(1, 1, 9, 0, 2));
    Check.bad("span q", () -> far.span(0, 1, 9, 1, 0));
    Check.bad("span many 0", () -> far.span(0, 1, 0, 0, 0));
    Check.bad("span many 41", () -> far.span(0, 1, 0, 41, 0));
    Check.bad("span what", () -> far.span(0, 1, 0, 1, 2));
    Check.is("span of forty", 20, () -> far.span(0, 1, 0, 40, 1));
    // 30 yards go in step 0 to (2,1), or turned to (2,2); the walker stands on (2,2), the watch on (2,0)
    HarbourFog f = Check.at("port 3 3;fog 1 1 1 1 30;wind 0 2 1 8;wind 1 1 1 0;sight 40;watch 2 2;walk 2 2 0 o;");
    for (int q = 0; q <= 8; q++) {
      for (int seed : new int[] {0, 5, 1000, -3, Integer.MAX_VALUE - 1}) {
        spansOf(f, q, seed);
      }
    }
    Check.bad("enough yards", () -> f.enough(0, 100, 1, 0, 1));
    Check.bad("enough yards below", () -> f.enough(0, -1, 1, 0, 1));
    Check.bad("enough q", () -> f.enough(0, 0, 1, 9, 1));
    Check.bad("enough many", () -> f.enough(0, 0, 1, 0, 41));
    Check.none("enough 1", () -> f.enough(1, 100, 1, 0, 1));
    Check.is("enough 99", 1, () -> f.enough(0, 99, 1, 0, 1));
    HarbourFog g = Check.at("port 3 3;sight 99;watch 1 1;walk 1 1 0 o;");
    Check.is("enough of 98", 0, () -> g.enough(0, 98, 1, 0, 5));
    Check.is("enough of 99", 5, () -> g.enough(0, 99, 1, 0, 5));
    Check.is("sure of 99", 99, () -> g.sure(0, 1, 1, 0, 5));
    HarbourFog h = Check.at("port 3 3;walk 1 1 0 o;");
    Check.is("enough of none", 40, () -> h.enough(0, 0, 1, 8, 40));
    Check.is("sure of none", 0, () -> h.sure(0, 40, 1, 8, 40));
    Check.bad("sure k 0", () -> f.sure(0, 0, 1, 0, 3));
    Check.bad("sure k beyond many", () -> f.sure(0, 4, 1, 0, 3));
    Check.bad("sure q", () -> f.sure(0, 1, 1, -1, 3));
    Check.bad("sure many", () -> f.sure(0, 1, 1, 0, 0));
    Check.none("sure 1", () -> f.sure(1, 0, 1, 0, 3));
  }

  private static void spansOf(HarbourFog f, int q, int seed) {
    int many = 8;
    int turned = 0;
    for (int i = 0; i < many; i++) {
      turned += draw(seed + i, 0) < q ? 1 : 0;
    }
    int onHim = turned;
    String told = " by q " + q + ", seed " + seed;
    // turned, 30 yards are on him, and he needs 10; else 40
    Check.is("span least" + told, onHim > 0 ? 10 : 40, () -> f.span(0, seed, q, many, 0));
    Check.is("span greatest" + told, onHim < many ? 40 : 10, () -> f.span(0, seed, q, many, 1));
    Check.is("enough 9" + told, 0, () -> f.enough(0, 9, seed, q, many));
    Check.is("enough 10" + told, onHim, () -> f.enough(0, 10, seed, q, many));
    Check.is("enough 39" + told, onHim, () -> f.enough(0, 39, seed, q, many));
    Check.is("enough 40" + told, many, () -> f.enough(0, 40, seed, q, many));
    for (int k = 1; k <= many; k++) {
      int least = k;
      Check.is("sure of " + k + told, k <= onHim ? 10 : 40, () -> f.sure(0, least, seed, q, many));
    }
  }

  // ==== 35 to 39: RULES ====

  private static HarbourFog auctionRoom() {
    HarbourFog f = Check.at("port 4 2;fog 0 0 1 0 15;thin 1 3;lot 0 0 1 0 3 0;lot 2 0 2 0 0 0;");
    f.bid(0, 10, 7);
    f.bid(1, 4, 50);
    f.bid(0, 12, 9);
    f.bid(0, 20, 7);
    f.bid(0, 5, 2);
    return f;
  }

  private static void rules() {
    rule();
    let();
    ruled();
    values();
    clock();
  }

  private static void rule() {
    HarbourFog f = auctionRoom();
    Check.is("rule", 3, () -> Check.rule(f, "first 1;pay 2;first wants;"));
    Check.is("the last counts", 10, () -> f.let(0, 0, 1));
    Check.feed(f, "pay 5;".repeat(40));
    Check.bad("rule of 201", () -> f.rule(201));
    Check.bad("rule below 0", () -> f.rule(-1));
    Check.is("the tape stays", 240, () -> f.count(1));
    Check.is("a ninth part", -7, () -> f.rule(200));
    Check.is("its place", 48, f::fault);
    Check.is("the tape is empty", 0, () -> f.count(1));
    Check.is("the rule stays", 10, () -> f.let(0, 0, 1));
    Check.bad("rule beyond the tape", () -> f.rule(1));
    Check.is("eight parts", 8, () -> Check.rule(f, "pay 5;".repeat(8)));
    Check.is("bids stay", 5, () -> f.told(8));
    Check.is("no rule", 0, () -> f.rule(0));
    Check.is("no first", 7, () -> f.let(0, 0, 1));
  }

  private static void let() {
    HarbourFog f = auctionRoom();
    Check.is("all are let in", 1, () -> f.let(4, 0, 0));
    Check.is("by price", 2, () -> f.let(4, 0, 1));
    Check.rule(f, "allow price > 7;allow wants = 10;first there + left + step;");
    Check.is("let by the second", 1, () -> f.let(0, 0, 0));
    Check.is("let by the first", 1, () -> f.let(2, 0, 0));
    Check.is("not let", 0, () -> f.let(3, 0, 0));
    Check.is("first tells of one that is not let in", 60, () -> f.let(3, 0, 1));
    Check.is("in another step", 24 + 24 + 1, () -> f.let(3, 1, 1));
    Check.none("let 5", () -> f.let(5, 0, 0));
    Check.none("let -1", () -> f.let(-1, 40, 2));
    Check.bad("let step", () -> f.let(0, 40, 0));
    Check.bad("let at first", () -> f.let(0, -1, 0));
    Check.bad("let what", () -> f.let(0, 0, 2));
  }

  private static void ruled() {
    HarbourFog f = auctionRoom();
    // no rule: 12 at 9, 10 at 7, 8 at 7
    int[] plain = {10, 0, 12, 8, 0};
    for (int i = 0; i < 5; i++) {
      int k = i;
      Check.is("ruled without a rule " + i, plain[i], () -> f.ruled(k, 0, 0));
    }
    Check.is("brings", 108 + 70 + 56, () -> f.brings(0, 0, 0));
    Check.is("brings yards", 30, () -> f.brings(0, 0, 1));
    Check.is("brings bids", 3, () -> f.brings(0, 0, 2));
    Check.is("no floor in a rule", 2, () -> {
      f.set(0, 0, 47);
      return f.ruled(4, 0, 0) - 3;
    });
    f.set(0, 0, 15);
    Check.rule(f, "first 0-price;most left/2+1;pay left-number*100;");
    // 2 (bid 4): 16 but wants 5, pays 30 - 400 < 0; left 25: bid 0 wants 10 of 13, pays 25;
    // left 15: bid 3 8 of 20, pays 15 - 300 < 0; left 7: bid 2 4 of 12, pays 7 - 200 < 0
    int[] gets = {10, 0, 4, 8, 5};
    int[] pays = {250, 0, 0, 0, 0};
    for (int i = 0; i < 5; i++) {
      int k = i;
      Check.is("ruled " + i, gets[i], () -> f.ruled(k, 0, 0));
      Check.is("ruled pays " + i, pays[i], () -> f.ruled(k, 0, 1));
    }
    Check.is("brings by rule", 250, () -> f.brings(0, 0, 0));
    Check.is("brings yards by rule", 27, () -> f.brings(0, 0, 1));
    Check.is("brings bids by rule", 4, () -> f.brings(0, 0, 2));
    Check.is("nothing there", 0, () -> f.brings(1, 0, 2));
    Check.rule(f, "most 0-5;");
    Check.is("most below 0", 0, () -> f.brings(0, 0, 1));
    Check.rule(f, "pay 999*999*999;");
    // 999 cubed by 30 yards, wrapped
    Check.is("it wraps", (int) (999L * 999 * 999 * 30), () -> f.brings(0, 0, 0));
    Check.rule(f, "pay 999*999*999*3;");
    Check.is("a price that wraps below 0 is 0", 0, () -> f.brings(0, 0, 0));
    Check.none("ruled 5", () -> f.ruled(5, 40, 0));
    Check.bad("ruled step", () -> f.ruled(0, 40, 0));
    Check.bad("ruled what", () -> f.ruled(0, 0, 2));
    Check.none("brings 2", () -> f.brings(2, 40, 0));
    Check.bad("brings step", () -> f.brings(0, -1, 0));
    Check.bad("brings what", () -> f.brings(0, 0, 3));
  }

  private static void tells(HarbourFog f, String sum, int due) {
    Check.is("rule of " + sum, 1, () -> Check.rule(f, "first " + sum + ";"));
    Check.is(sum, due, () -> f.let(3, 2, 1));
  }

  private static void holds(HarbourFog f, String choice, int due) {
    Check.is("rule of " + choice, 1, () -> Check.rule(f, "allow " + choice + ";"));
    Check.is(choice, due, () -> f.let(3, 2, 0));
  }

  /** Of bid 3 in step 2: price 7, wants 20, lot 0, there and left 18, floor 3, bids 4. */
  private static void values() {
    HarbourFog f = auctionRoom();
    tells(f, "price", 7);
    tells(f, "wants", 20);
    tells(f, "lot", 0);
    tells(f, "step", 2);
    tells(f, "there", 18);
    tells(f, "left", 18);
    tells(f, "floor", 3);
    tells(f, "number", 3);
    tells(f, "bids", 4);
    tells(f, "999", 999);
    tells(f, "007", 7);
    tells(f, "2+3*4", 14);
    tells(f, "(2+3)*4", 20);
    tells(f, "9-3-2", 4);
    tells(f, "7/2*2", 6);
    tells(f, "(0-7)/2", -3);
    tells(f, "5/0", 0);
    tells(f, "5/0+1", 1);
    tells(f, "100/7/2", 7);
    tells(f, "999*999*999*999", (int) (999L * 999 * 999 * 999));
    tells(f, "((((((1))))))", 1);
    tells(f, " price * ( wants - 1 ) ", 133);
    holds(f, "price=7", 1);
    holds(f, "price<7", 0);
    holds(f, "price>6", 1);
    holds(f, "price>7", 0);
    holds(f, "not price=7", 0);
    holds(f, "not not price=7", 1);
    holds(f, "1=2 and 1=1 or 1=1", 1);
    holds(f, "1=1 or 1=1 and 1=2", 1);
    holds(f, "[1=1 or 1=1] and 1=2", 0);
    holds(f, "not 1=2 and 1=2", 0);
    holds(f, "not [1=2 and 1=2]", 1);
    holds(f, "not 1=1 or 1=1", 1);
    holds(f, "[[[[[[1=1]]]]]]", 1);
    holds(f, "not not not not not not 1=2", 0);
    holds(f, "not[not[not(1)=2]]", 1);
    Check.is("no allow is so", 2, () -> Check.rule(f, "allow 1=2;allow 2=1;"));
    Check.is("not let in", 0, () -> f.let(3, 2, 0));
    Check.is("none gets any", 0, () -> f.brings(0, 2, 2));
  }

  private static void clock() {
    HarbourFog f = auctionRoom();
    Check.rule(f, "allow 1=2;");
    // 30 there: 3 and more want 42, 8 and more 12
    Check.is("clock", 8, () -> f.clock(0, 0, 0));
    Check.is("clock sold", 12, () -> f.clock(0, 0, 1));
    Check.is("clock brings", 96, () -> f.clock(0, 0, 2));
    Check.is("clock, as much as is there", 3, () -> {
      f.set(0, 0, 27);
      return f.clock(0, 0, 0);
    });
    Check.is("clock brings so", 126, () -> f.clock(0, 0, 2));
    Check.is("clock in step 39", 10, () -> f.clock(0, 39, 0));
    Check.is("clock of the other", 51, () -> f.clock(1, 0, 0));
    Check.is("clock, none sold", 0, () -> f.clock(1, 0, 1));
    f.bid(1, 1, 99);
    Check.is("clock to 100", 100, () -> f.clock(1, 0, 0));
    Check.none("clock 2", () -> f.clock(2, 40, 0));
    Check.bad("clock step", () -> f.clock(0, 40, 0));
    Check.bad("clock what", () -> f.clock(0, 0, 3));
  }

  // ==== 42 to 50 ====

  private static void more() {
    start();
    meet();
    witnesses();
    guards();
    light();
    asked();
    calm();
    thick();
    hid();
  }

  private static void start() {
    HarbourFog f = Check.at("port 3 3;sight 30;fog 0 0 0 0 8;wind 4 2 1 8;wind 5 1 1 0;wind 6 0 1 8;wind 7 1 1 0;"
        + "watch 2 0;walk 1 0 20 oo;");
    // the fog is on (1,0) behind 4 and 5; so is he in all steps of a walk of three only in part
    Check.is("buy as told", 30, () -> f.buy(0, 0));
    Check.is("start, all alike", 0, () -> f.start(0, 0));
    Check.is("start, N", 30, () -> f.start(0, 1));
    HarbourFog g = Check.at("port 3 3;sight 30;fog 1 0 1 0 40;thin 0 1;watch 2 0;walk 1 0 20 oo;");
    // 40 less step and 1: the first step with the least need; N 0 while 30 or more stand in all of it
    Check.is("buy later", 11 + 2, () -> g.buy(0, 0));
    Check.is("start, first", 0, () -> g.start(0, 0));
    Check.is("start, least", 0, () -> g.start(0, 1));
    HarbourFog h = Check.at("port 3 3;sight 99;fog 0 0 0 0 20;wind 37 2 1 8;watch 2 0;walk 1 0 0 oo;");
    // behind 37 on (1,0), behind 38 on (2,0), gone behind 39: all walks of three steps need 99 in one of them
    Check.is("start at the end", 0, () -> h.start(0, 0));
    HarbourFog k = Check.at("port 3 3;sight 99;fog 0 0 0 0 20;wind 38 2 1 8;watch 2 0;walk 1 0 0 o;");
    Check.is("start 38 is the last that can be", 38, () -> k.start(0, 0));
    Check.is("start 38 needs", 79, () -> k.start(0, 1));
    Check.none("start 1", () -> f.start(1, 2));
    Check.bad("start what", () -> f.start(0, 2));
  }

  private static void meet() {
    HarbourFog f = Check.at("port 4 3;walk 0 0 2 eee;walk 3 0 3 wwo;walk 2 2 0 o;");
    // 2: (0,0); 3: (1,0), (3,0); 4: (2,0), (2,0)
    Check.is("meet", 4, () -> f.meet(0, 1));
    Check.is("meet the other way", 4, () -> f.meet(1, 0));
    Check.is("never", NONE, () -> f.meet(0, 2));
    Check.bad("meet himself", () -> f.meet(1, 1));
    Check.none("meet 3", () -> f.meet(3, 3));
    Check.none("meet with 3", () -> f.meet(0, 3));
    HarbourFog g = Check.at("port 4 3;walk 1 0 0 ee;walk 3 0 3 o;");
    Check.is("one is gone", NONE, () -> g.meet(0, 1));
  }

  private static void witnesses() {
    HarbourFog f = Check.at("port 5 5;sight 10;walk 0 0 0 ooo;walk 4 0 2 ooo;walk 1 4 0 eo;");
    // the cell (2,2): by the first in 0 to 3, by the second in 2 to 5, by the third (2,4) in 1 and 2
    Check.is("some", 7, () -> f.witnesses(2, 2, 0, 5, false));
    Check.is("some early", 5, () -> f.witnesses(2, 2, 0, 1, false));
    Check.is("all of 0 to 3", 1, () -> f.witnesses(2, 2, 0, 3, true));
    Check.is("all of 2 to 3", 3, () -> f.witnesses(2, 2, 2, 3, true));
    Check.is("all of 2", 7, () -> f.witnesses(2, 2, 2, 2, true));
    Check.is("all of 1 to 4", 0, () -> f.witnesses(2, 2, 1, 4, true));
    Check.is("none at the end", 0, () -> f.witnesses(2, 2, 39, 39, false));
    Check.cell("witnesses beyond", () -> f.witnesses(5, 2, 5, 0, true));
    Check.bad("witnesses back", () -> f.witnesses(2, 2, 3, 2, true));
    Check.bad("witnesses from", () -> f.witnesses(2, 2, -1, 2, true));
    Check.bad("witnesses to", () -> f.witnesses(2, 2, 0, 40, true));
  }

  private static void guards() {
    HarbourFog f = Check.at("port 9 9;walk 0 1 0 o;walk 8 7 5 o;walk 4 2 39 o;watch 0 8;watch 8 0;watch 4 4;watch 0 0;");
    // (0,1): by (0,8) and (0,0); (8,7): by (8,0); (4,2): by (4,4) alone .. (8,0) no line, (0,0) no line
    Check.is("guards: three are needed", 1 + 2 + 4, f::guards);
    HarbourFog g = Check.at("port 9 9;walk 0 1 0 o;walk 1 0 0 o;watch 0 8;watch 8 0;watch 0 0;");
    Check.is("guards: the fewest", 4, g::guards);
    HarbourFog h = Check.at("port 9 9;walk 1 1 0 o;watch 3 2;watch 1 8;watch 8 1;");
    Check.is("guards: of these the least bits", 2, h::guards);
    HarbourFog k = Check.at("port 9 9;sight 1;fog 0 0 8 8 1;walk 1 1 0 o;watch 1 1;");
    Check.is("guards: none is seen", 0, k::guards);
  }

  private static void light() {
    HarbourFog f = Check.at("port 4 3;fog 2 0 2 2 20;thin 0 2;ship 2 6;ship 0 0;");
    // 2 a step: 6 behind 6; with a lamp of 5 beside the middle 7 a step: 6 behind 1
    Check.is("ship", 6, () -> f.ship(0));
    Check.is("light cell", 11, () -> f.light(0, 5, 0));
    Check.is("light step", 1, () -> f.light(0, 5, 1));
    Check.is("light of 12 and more", 0, () -> f.light(0, 12, 1));
    Check.is("light of a ship that comes at once: the first cell", 0, () -> f.light(1, 1, 0));
    Check.is("light at once", 0, () -> f.light(1, 1, 1));
    Check.is("no lamp is left behind", 0, () -> f.told(2));
    Check.is("the fog is as before", 6, () -> f.ship(0));
    Check.none("light 2", () -> f.light(2, 0, 0));
    Check.bad("light 0", () -> f.light(0, 0, 0));
    Check.bad("light 21", () -> f.light(0, 21, 0));
    Check.bad("light what", () -> f.light(0, 1, 2));
    HarbourFog g = Check.at("port 4 9;fog 0 0 0 8 50;ship 0 9;");
    Check.is("never so", NONE, () -> g.light(0, 20, 0));
    Check.is("never so, step", NONE, () -> g.light(0, 20, 1));
    HarbourFog h = Check.at("port 4 3;lamp 0 0 1;lamp 0 0 1;lamp 0 0 1;lamp 0 0 1;lamp 0 0 1;ship 0 9;");
    Check.is("a sixth lamp", 0, () -> h.light(0, 1, 0));
    HarbourFog k = Check.at("port 4 3;lamp 0 0 1;lamp 0 0 1;lamp 0 0 1;lamp 0 0 1;lamp 0 0 1;lamp 0 0 1;ship 0 9;");
    Check.is("a seventh lamp", NONE, () -> k.light(0, 1, 0));
    Check.is("a seventh lamp, step", NONE, () -> k.light(0, 1, 1));
    Check.bad("a seventh lamp, refused", () -> k.light(0, 0, 1));
  }

  private static void asked() {
    HarbourFog f = Check.at("port 3 2;fog 0 0 0 0 30;lot 0 0 0 0 9 0;lot 1 0 1 0 9 0;");
    f.bid(0, 10, 8);
    f.bid(0, 10, 5);
    f.bid(0, 10, 2);
    // by way 1: up to 2: 60, up to 5: 100, up to 8: 80
    Check.is("asked by way 0", 0, () -> f.asked(0, 0, 0, 0));
    Check.is("brings by way 0", 150, () -> f.asked(0, 0, 0, 1));
    Check.is("asked by way 1", 3, () -> f.asked(0, 0, 1, 0));
    Check.is("brings by way 1", 100, () -> f.asked(0, 0, 1, 1));
    Check.is("F is as told", 9, () -> f.lot(0, 0));
    Check.is("sold as told", 0, () -> f.sold(0, 0, 1));
    Check.is("nothing there: the least", 0, () -> f.asked(1, 0, 1, 0));
    Check.is("nothing there: nothing", 0, () -> f.asked(1, 0, 1, 1));
    HarbourFog g = Check.at("port 3 2;fog 0 0 0 0 30;lot 0 0 0 0 0 0;");
    g.bid(0, 10, 60);
    g.bid(0, 10, 8);
    Check.is("asked: only the greatest F keeps the second out", 9, () -> g.asked(0, 0, 1, 0));
    Check.is("asked: what the first brings alone", 600, () -> g.asked(0, 0, 1, 1));
    Check.none("asked 2", () -> f.asked(2, 40, 0, 0));
    Check.bad("asked step", () -> f.asked(0, 40, 0, 0));
    Check.bad("asked way", () -> f.asked(0, 0, 2, 0));
    Check.bad("asked what", () -> f.asked(0, 0, 0, 2));
  }

  private static void calm() {
    HarbourFog f = Check.at("port 4 2;fog 0 0 0 0 20;wind 1 2 1 8;wind 3 1 1 8;wind 5 0 1 1;wind 30 2 1 8;");
    // 20 go in 1 and 2, two parts of them in 5 and 6 .. till fewer than 8 stand on each cell
    Check.is("calm ahead of any wind", 0, () -> f.calm(0));
    Check.is("calm by no way", 3, () -> f.calm(1));
    Check.is("calm from 4", 4, () -> f.calm(4));
    Check.bad("calm 40", () -> f.calm(40));
    Check.bad("calm at first", () -> f.calm(-1));
    HarbourFog g = Check.at("port 2 2;fog 0 0 0 0 8;wind 0 2 1 1;");
    // of 8 one goes, of 7 none: a wind that blows, but moves nothing
    Check.is("a wind that moves nothing", 1, () -> g.calm(0));
    HarbourFog h = Check.at("port 2 2;fog 0 0 0 0 9;wind 39 2 1 8;");
    Check.is("calm till the last", 38, () -> h.calm(38));
    Check.is("never again", NONE, () -> h.calm(39));
  }

  private static void thick() {
    HarbourFog f = Check.at("port 4 3;fog 1 1 2 1 9;fog 3 2 3 2 9;fog 2 0 2 0 3;lamp 1 1 2;");
    Check.is("thick at first", 11, () -> f.thick(-1));
    Check.is("thick 0", 23, () -> f.thick(0));
    f.set(3, 2, 1);
    Check.is("thick of alike ones", 11, () -> f.thick(0));
    HarbourFog g = new HarbourFog();
    Check.is("thick without fog", 0, () -> g.thick(39));
    Check.bad("thick 40", () -> f.thick(40));
    Check.bad("thick -2", () -> f.thick(-2));
  }

  private static void hid() {
    HarbourFog g = Check.at("port 5 5;sight 10;watch 0 0;walk 2 0 1 sseooo;walk 2 3 3 soo;");
    // the first: 1 watch, 2 hidden, 3 watch, 4 (3,2) and (2,4) no line, 5, 6, 7 so: hidden in 2, 4, 5, 6, 7
    Check.is("hid", 5, () -> g.hid(0));
    // the second: 3 (2,3) by the first on (2,2), 4 to 6 (2,4): hidden
    Check.is("hid, from a walker", 3, () -> g.hid(1));
    Check.none("hid 2", () -> g.hid(2));
    g.set(2, 2, 10);
    // (2,2) in fog: seen by none
    Check.is("hid in fog", 6, () -> g.hid(0));
    Check.is("hid by fog", 4, () -> g.hid(1));
  }

  /** Each asked of a new object, and each told by what is in the first or in the last step alone. */
  private static void firstAndLastStep() {
    String late = "port 4 2;fog 0 0 0 0 8;wind 39 2 1 8;sight 9;lot 0 0 0 0 1 2;lot 1 0 1 0 3 4;";
    Check.is("leaks in 39", 8, () -> Check.at(late).leaks(0, 1, 0));
    Check.is("damages in 39", 32, () -> Check.at(late).leaks(0, 1, 1));
    Check.is("net in 39", 32, () -> Check.at(late).net(1));
    Check.is("yards in 39", 8, () -> Check.at(late).yards(1, 39));
    Check.is("worthless but for 39", 40, () -> Check.at(late).worthless(1, 8));
    Check.is("a lamp in 39", 0, () -> Check.at(late + "lamp 2 1 1;").whose(1, 0));
    Check.is("led in 39", 1, () -> Check.at(late + "lamp 2 1 1;").led(0, 39));
    Check.is("thick in 39", 1, () -> Check.at(late).thick(39));
    Check.is("sums in 39", 8, () -> Check.at(late).sums(39, 0));
    Check.is("line in 39", 8, () -> Check.at(late).line(1, 0, 3, 0, 39));
    Check.is("ship in 39", 39, () -> Check.at(late + "ship 0 7;").ship(0));
    Check.is("when in 39", 39, () -> {
      HarbourFog f = Check.at(late);
      f.bid(1, 1, 3);
      return f.when(1, 0);
    });
    String two = late + "walk 1 0 39 o;walk 3 0 39 o;watch 2 1;watch 3 0;";
    Check.is("sees in 39", true, () -> Check.at(two).sees(0, 1, 39));
    Check.is("often in 39", 1, () -> Check.at(two).often(0, 1));
    Check.is("seen in 39", 3, () -> Check.at(two).seen(0, 39));
    Check.is("could in 39", 3, () -> Check.at(two).could(1, 0, 39));
    Check.is("witnesses in 39", 3, () -> Check.at(two).witnesses(1, 0, 39, 39, true));
    Check.is("meet not in 39", NONE, () -> Check.at(two).meet(0, 1));
    Check.is("meet in 39", 39, () -> Check.at("walk 1 0 39 o;walk 0 0 38 e;").meet(0, 1));
    Check.is("guards in 39", 1, () -> Check.at(two).guards());
    Check.is("buy in 39", 1, () -> Check.at(two).buy(0, 0));
    Check.is("cost in 39", 3, () -> Check.at(two).buy(0, 1));
    String hidden = late + "walk 1 0 39 o;sight 8;";
    Check.is("often not in 39", 0, () -> Check.at(hidden + "walk 3 0 39 o;").often(0, 1));
    Check.is("guards not in 39", 0, () -> Check.at(hidden + "watch 3 0;").guards());
    Check.is("hid not in 39", 0, () -> Check.at(two).hid(0));
    Check.is("hid in 39", 1, () -> Check.at(two + "sight 8;").hid(0));
    Check.is("way in 39", 1, () -> Check.at(two).way(1, 1, 39, 0));
    Check.is("right by 39", true, () -> {
      HarbourFog f = Check.at(late);
      f.gauge(1, 0, 39, 8);
      return f.right();
    });
    Check.is("found by 39", 39 * 7 + 7, () -> {
      HarbourFog f = Check.at(late);
      f.gauge(1, 0, 39, 8);
      return f.found(0);
    });
    early();
  }

  private static void early() {
    String early = "port 4 2;fog 1 0 1 0 8;wind 0 1 2 8;wind 1 1 1 0;sight 9;lot 1 1 1 1 1 0;";
    Check.is("worthless from 1 on", 1, () -> Check.at(early + "thin 1 1;").worthless(0, 8));
    Check.is("a bid of a farthing", 0, () -> {
      HarbourFog f = Check.at(early);
      f.bid(0, 1, 1);
      return f.when(0, 0);
    });
    String two = early + "walk 0 1 0 n;walk 2 1 0 o;watch 3 1;";
    Check.is("often in 0", 1, () -> Check.at(two + "walk 0 1 0 o;sight 99;").often(0, 1));
    String seenFirst = "port 4 2;fog 0 1 0 1 9;walk 0 0 0 s;watch 0 0;sight 1;";
    Check.is("guards in 0", 1, () -> Check.at(seenFirst).guards());
    Check.is("hid but not in 0", 1, () -> Check.at(seenFirst).hid(0));
    Check.is("meet in 0", 0, () -> Check.at("walk 1 0 0 o;walk 1 0 0 e;").meet(0, 1));
  }

  /** On a port that is high and narrow. */
  private static void lowerRows() {
    HarbourFog f = Check.at("port 2 9;fog 1 7 1 8 40;fog 0 5 0 5 41;thin 1 1;lamp 0 6 2;steamer 2 0 7;"
        + "lot 0 5 1 8 2 0;ship 1 38;ship 0 39;walk 1 8 0 no;watch 1 0;watch 0 6;");
    // the lamp is about 5 to 7: (1,7) 38, (0,5) 39; then 35, 36
    Check.is("yards of lower rows", 38 + 40 + 39, () -> f.yards(0, 0));
    Check.is("thick in a lower row", 81, () -> f.thick(0));
    Check.is("thick later", 81, () -> f.thick(1));
    Check.is("whose in a lower row", 0, () -> f.whose(1, 7));
    Check.is("whose below it", NONE, () -> f.whose(1, 8));
    Check.is("led", 4, () -> f.led(0, 0));
    Check.is("a ship by lower rows", 2, () -> f.ship(0));
    Check.is("the other ship", 0, () -> f.ship(1));
    // (1,7) 35 and (1,8) 39 are parted among six cells: 12 each, 2 more on (0,7); then 2 burned by the lamp, 1 thin
    Check.is("steamer below", 11, () -> f.fog(0, 7, 2));
    Check.is("steamer about it", 9, () -> f.fog(1, 6, 2));
    Check.is("steamer, last row", 11, () -> f.fog(1, 8, 2));
    Check.is("seen below", 0, () -> f.seen(0, 1));
    f.set(1, 7, 0);
    f.set(1, 8, 19);
    Check.is("seen below without fog", 1, () -> f.seen(0, 0));
    f.gauge(1, 8, 1, 0);
    // away on (1,8) in 0 or in 1
    Check.is("found below", 2, () -> f.found(0));
    Check.is("found in", 0, () -> f.found(1));
    Check.is("found on", 81, () -> f.found(2));
    Check.is("light below", 70, () -> Check.at("port 2 9;fog 1 8 1 8 9;ship 1 8;").light(0, 1, 0));
  }

  // ==== 51 to 54 ====

  private static void images() {
    HarbourFog f = Check.at("port 3 2;fog 0 0 0 0 9;lot 0 0 0 0 0 0;");
    f.bid(0, 3, 4);
    Check.is("image 1", 1, f::image);
    f.set(0, 0, 20);
    f.bid(0, 5, 6);
    f.gauge(0, 0, 0, 20);
    Check.is("image 2", 2, f::image);
    f.clear();
    f.set(0, 0, 30);
    f.bid(0, 7, 8);
    f.bid(0, 7, 8);
    f.bid(0, 7, 8);
    Check.is("image 3", 3, f::image);
    Check.is("image 4", NONE, f::image);
    Check.is("images", 3, () -> f.count(0));
    Check.rule(f, "first 77;");
    Check.is("a refused call", NONE, () -> {
      f.status(0);
      return NONE;
    });
    Check.bad("refused", () -> f.told(10));
    f.set(0, 0, 40);
    Check.is("restore 3", 2, f::restore);
    Check.is("fog of 3", 30, () -> f.fog(0, 0, 5));
    Check.is("bids of 3", 3, () -> f.told(8));
    Check.is("restore 2", 1, f::restore);
    Check.is("fog of 2", 20, () -> f.fog(0, 0, 5));
    Check.is("bids of 2", 2, () -> f.told(8));
    Check.is("gauges of 2", 1, () -> f.told(9));
    Check.is("right in 2", true, f::right);
    Check.is("sold in 2", 30 + 12, () -> f.sold(0, 0, 0));
    Check.is("restore 1", 0, f::restore);
    Check.is("fog of 1", 9, () -> f.fog(0, 0, 5));
    Check.is("bids of 1", 1, () -> f.told(8));
    Check.is("gauges of 1", 0, () -> f.told(9));
    Check.is("found of 1", 240, () -> f.found(0));
    Check.is("the rule stays", 77, () -> f.let(0, 0, 1));
    Check.is("status stays", 1, () -> f.status(2));
    Check.is("restore none", NONE, f::restore);
    Check.is("image again", 1, f::image);
    status();
  }

  private static void status() {
    HarbourFog f = Check.at("port 3 2;lot 0 0 0 0 0 0;");
    Check.cell("1", () -> f.fog(3, 0, 0));
    Check.cell("2", () -> f.way(3, 3, 99, 99));
    Check.cell("3", () -> f.witnesses(3, 0, 5, 1, true));
    Check.none("4", () -> f.net(1));
    Check.none("5", () -> f.leaks(1, 1, 9));
    Check.bad("6", () -> f.rule(1));
    Check.bad("7", () -> f.port(1));
    Check.bad("8", () -> f.sums(99, 99));
    Check.bad("9", () -> f.leaks(0, 0, 9));
    Check.is("status 0", 3, () -> f.status(0));
    Check.is("status 1", 2, () -> f.status(1));
    Check.is("status 2", 4, () -> f.status(2));
    Check.is("status 3", NONE, () -> f.status(3));
    Check.is("status -1", NONE, () -> f.status(-1));
    Check.is("count 2", NONE, () -> f.count(2));
    Check.is("count -1", NONE, () -> f.count(-1));
    Check.feed(f, "sight 3;");
    Check.is("count 1", 20, () -> f.count(1));
    f.port(8);
    Check.is("status stays over a port", 4, () -> f.status(2));
    Check.is("a fault is no refusal", -9, () -> Check.port(f, "x"));
    Check.is("status as before", 4, () -> f.status(2));
  }
}

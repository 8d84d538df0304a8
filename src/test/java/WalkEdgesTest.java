/** The edges of what is SEEN: lines, walks, yards to buy, ways, starts, witnesses, guards, spans. */
public final class WalkEdgesTest {
  private WalkEdgesTest() {
  }

  public static void main(String[] args) {
    lines();
    sight();
    walks();
    often();
    watches();
    could();
    buy();
    wayLengths();
    wayYards();
    start();
    meet();
    witnesses();
    guards();
    hid();
    spans();
    Check.end("WalkEdgesTest");
  }

  private static void lines() {
    Calls nine = Calls.at("all cells from the one to the other", "port 9 9;fog 0 0 8 8 1;fog 0 0 0 0 10;fog 8 8 8 8 20;"
        + "fog 8 0 8 0 30;fog 0 8 0 8 40;");
    nine.due("line 0 0 8 8 0 = 39", "line 8 8 0 0 0 = 39", "line 8 0 0 8 0 = 79", "line 0 8 8 0 0 = 79",
        "line 0 0 8 0 0 = 49", "line 8 0 0 0 0 = 49", "line 0 0 0 8 0 = 59", "line 0 8 0 0 0 = 59",
        "line 8 0 8 8 0 = 59", "line 0 8 8 8 39 = 69", "line 8 8 8 8 0 = 21", "line 0 0 0 0 39 = 11",
        "line 7 7 8 8 0 = 22", "line 7 8 8 8 0 = 22", "line 8 7 8 8 0 = 22", "line 8 8 7 8 0 = 22");
    nine.due("line 0 0 8 7 0 = -1", "line 0 0 7 8 0 = -1", "line 8 8 0 1 0 = -1", "line 0 0 1 2 0 = -1",
        "line 0 0 2 1 0 = -1", "line 4 4 5 6 0 = -1", "line 0 8 8 1 39 = -1");
    Calls.at("behind a step", "port 3 2;fog 1 0 1 0 8;wind 0 2 1 8;").due("line 0 0 2 0 0 = 8", "line 0 0 2 0 1 = 0",
        "line 0 0 1 0 0 = 0");
    Calls.at("a line of a new object", "port 3 2;fog 0 0 0 0 8;wind 0 2 1 8;").due("line 1 0 2 0 0 = 8");
  }

  private static void sight() {
    Calls one = Calls.at("sight 1", "port 5 2;sight 1;walk 0 0 0 o;walk 4 0 0 o;");
    one.due("sees 0 1 0 = true", "set 2 0 1 = 0", "sees 0 1 0 = false", "set 2 0 0 = 1", "set 0 0 1 = 0",
        "sees 0 1 0 = false", "sees 1 0 0 = false", "set 0 0 0 = 1", "set 4 0 1 = 0", "sees 0 1 0 = false");
    Calls most = Calls.at("sight 99", "port 5 2;sight 99;fog 2 0 2 0 98;walk 0 0 0 o;walk 4 0 0 o;");
    most.due("sees 0 1 0 = true", "set 1 0 1 = 0", "sees 0 1 0 = false", "set 1 0 99 = 1", "sees 0 1 0 = false");
    Calls both = Calls.at("both on one cell", "port 5 2;sight 5;fog 2 0 2 0 4;walk 2 0 0 o;walk 2 0 0 o;");
    both.due("sees 0 1 0 = true", "set 2 0 5 = 4", "sees 0 1 0 = false");
    Calls.at("no line", "port 5 3;sight 99;walk 0 0 0 o;walk 2 1 0 o;").due("sees 0 1 0 = false", "often 0 1 = 0");
    Calls.at("20 without", "port 5 2;fog 2 0 2 0 19;walk 0 0 0 o;walk 4 0 0 o;").due("sees 0 1 0 = true",
        "set 2 0 20 = 19", "sees 0 1 0 = false");
  }

  private static void walks() {
    Calls first = Calls.at("from 0 on", "port 4 4;walk 1 1 0 n;");
    first.due("where 0 0 = 11", "where 0 1 = 1", "where 0 2 = -1", "where 0 39 = -1", "where 0 -1 = bad",
        "where 0 40 = bad", "where 1 0 = none");
    Calls.at("from 39 on", "port 4 4;walk 1 1 39 nwssees;").due("where 0 38 = -1", "where 0 39 = 11");
    Calls.at("to 39", "port 4 4;walk 1 1 38 nwssees;").due("where 0 37 = -1", "where 0 38 = 11", "where 0 39 = 1");
    Calls.at("each way", "port 3 3;walk 1 1 0 nsswnneo;").due("where 0 1 = 1", "where 0 2 = 11", "where 0 3 = 21",
        "where 0 4 = 20", "where 0 5 = 10", "where 0 6 = 0", "where 0 7 = 1", "where 0 8 = 1", "where 0 9 = -1");
    Calls.at("along the edges", "port 2 2;walk 0 0 0 eswneswneswn;").due("where 0 1 = 1", "where 0 2 = 11",
        "where 0 3 = 10", "where 0 12 = 0", "where 0 13 = -1");
  }

  private static void often() {
    Calls.at("all steps of both", "port 3 3;walk 0 0 0 oooo;walk 2 2 3 oooo;").due("often 0 1 = 2", "sees 0 1 2 = false",
        "sees 0 1 3 = true", "sees 0 1 4 = true", "sees 0 1 5 = false");
    Calls.at("never both", "port 3 3;walk 0 0 0 o;walk 0 0 2 o;").due("often 0 1 = 0", "meet 0 1 = -1");
    Calls.at("thirteen steps", "port 3 3;walk 0 0 0 oooooooooooo;walk 2 0 0 oooooooooooo;").due("often 0 1 = 13",
        "often 1 0 = 13");
    Calls.at("fog that comes in between", "port 3 3;sight 9;fog 1 1 1 1 9;wind 2 1 0 8;walk 0 0 0 oooo;walk 2 0 0 oooo;")
        .due("often 0 1 = 4", "sees 0 1 2 = false");
  }

  private static void watches() {
    Calls four = Calls.at("four watches", "port 9 9;watch 4 4;watch 0 8;watch 8 8;watch 4 0;walk 4 4 0 o;walk 3 8 0 o;");
    four.due("seen 0 0 = 15", "seen 1 0 = 6", "seen 0 2 = 0", "set 4 4 20 = 0", "seen 0 0 = 0", "set 4 4 19 = 20",
        "seen 0 0 = 15", "set 4 0 1 = 0", "seen 0 0 = 7");
    Calls.at("none", "port 9 9;walk 4 4 0 o;").due("seen 0 0 = 0", "buy 0 0 = 0", "buy 0 1 = 0", "guards = 0",
        "hid 0 = 2");
    Calls.at("seen by a new object", "port 3 2;fog 0 0 0 0 20;wind 0 2 1 8;watch 0 0;walk 1 0 0 o;").due("seen 0 0 = 0",
        "seen 0 1 = 1");
  }

  private static void could() {
    String port = "port 3 2;fog 0 0 0 0 20;wind 0 2 1 8;walk 0 0 0 o;walk 0 1 1 o;";
    Calls.at("could, of a new object", port).due("could 1 0 0 = 0");
    Calls.at("could, in the next step", port).due("could 1 0 1 = 3", "could 1 0 2 = 2", "could 1 0 3 = 0");
    Calls.at("witnesses, of a new object", port).due("witnesses 1 0 0 0 false = 0");
    Calls.at("witnesses, of a new object, to 1", port).due("witnesses 1 0 0 1 false = 3", "witnesses 1 0 0 1 true = 0");
    Calls.at("his own cell", "port 3 2;walk 1 1 0 o;sight 1;").due("could 1 1 0 = 1", "set 1 1 1 = 0", "could 1 1 0 = 0");
    Calls.at("four walkers", "port 3 3;walk 0 0 0 o;walk 2 0 0 o;walk 0 2 0 o;walk 2 2 0 o;").due("could 1 1 0 = 15",
        "could 1 1 1 = 15", "could 1 1 2 = 0", "could 0 0 0 = 15", "could 1 0 0 = 3");
  }

  private static void buy() {
    Calls.at("as much as sight", "port 3 3;sight 99;watch 0 0;walk 0 0 0 o;lot 0 0 0 0 9 0;").due("buy 0 0 = 99",
        "buy 0 1 = 1782");
    Calls line = Calls.at("what the line lacks", "port 3 3;sight 30;watch 0 0;walk 2 0 0 o;fog 0 0 2 0 9;lot 2 0 2 0 1 0;");
    line.due("buy 0 0 = 3", "buy 0 1 = 6", "set 1 0 12 = 9", "buy 0 0 = 0", "buy 0 1 = 0", "set 1 0 11 = 12",
        "buy 0 0 = 1", "buy 0 1 = 2", "set 1 0 99 = 11", "buy 0 0 = 0");
    Calls.at("no lot, 0", "port 3 3;watch 0 0;walk 0 0 0 es;lot 1 0 1 0 7 0;").due("buy 0 0 = 20", "buy 0 1 = 140");
    Calls.at("F 0", "port 3 3;watch 0 0;walk 0 0 0 es;lot 0 0 2 2 0 0;").due("buy 0 0 = 20", "buy 0 1 = 0");
    Calls.at("only of the steps of his walk", "port 3 3;fog 1 0 1 0 20;thin 0 1;watch 0 0;walk 2 0 0 oo;")
        .due("buy 0 0 = 3");
    Calls.at("to 39", "port 3 3;watch 0 0;walk 2 0 38 oooooo;lot 2 0 2 0 1 0;").due("buy 0 0 = 20", "buy 0 1 = 40");
    Calls.at("in 39 alone", "port 3 3;watch 0 0;walk 2 0 39 o;lot 2 0 2 0 1 0;").due("buy 0 1 = 20");
    Calls.at("of all watches", "port 3 3;watch 0 0;watch 2 2;fog 1 0 1 0 15;walk 2 0 0 o;").due("buy 0 0 = 20");
    Calls.at("of no line", "port 3 3;watch 0 0;watch 0 1;walk 2 2 0 o;fog 1 1 1 1 5;").due("buy 0 0 = 15");
  }

  private static void wayLengths() {
    Calls calls = Calls.at("a move a step", "port 9 9;");
    calls.due("way 0 84 27 12 = 0", "way 0 84 27 11 = -1", "way 84 0 0 12 = 0", "way 84 0 0 11 = -1",
        "way 8 80 0 12 = -1", "way 88 44 0 8 = 0", "way 88 44 0 7 = -1", "way 44 88 0 8 = 0", "way 44 88 0 7 = -1",
        "way 88 28 0 6 = 0", "way 88 28 0 5 = -1", "way 88 82 0 6 = 0", "way 88 82 0 5 = -1", "way 0 0 39 0 = 0",
        "way 88 88 39 0 = 0", "way 88 87 39 0 = -1", "way 88 88 38 1 = 0", "way 0 88 0 12 = -1", "way 88 88 0 12 = 0");
    for (int to : new int[] {1, 10, 12, 21, 11}) {
      Calls.at("one move", "port 3 3;").due("way 11 " + to + " 0 1 = 0", "way " + to + " 11 0 1 = 0");
    }
    for (int to : new int[] {0, 2, 20, 22}) {
      Calls.at("two moves", "port 3 3;").due("way 11 " + to + " 0 1 = -1", "way 11 " + to + " 0 2 = 0",
          "way " + to + " 11 0 1 = -1", "way " + to + " 11 0 2 = 0");
    }
    Calls.at("not round the edge", "port 2 2;").due("way 1 10 0 1 = -1", "way 0 11 0 1 = -1", "way 0 1 0 1 = 0");
  }

  private static void wayYards() {
    Calls all = Calls.at("T and U, too", "port 2 2;sight 10;watch 0 0;");
    all.due("way 11 11 0 0 = 10", "way 0 11 0 2 = 30", "way 0 11 0 3 = 40", "way 11 0 27 12 = 130", "way 0 0 38 1 = 20");
    Calls hidden = Calls.at("by cells that none sees", "port 3 3;sight 10;watch 0 0;");
    hidden.due("way 21 12 0 2 = 10", "way 21 21 0 12 = 0", "way 12 12 27 12 = 0", "way 21 12 0 12 = 10",
        "way 12 21 0 1 = -1", "way 0 21 0 3 = 30", "way 21 0 0 3 = 30");
    Calls fog = Calls.at("the least of all ways", "port 3 3;sight 10;watch 0 0;fog 2 2 2 2 7;fog 1 1 1 1 2;");
    fog.due("way 21 12 0 2 = 1", "set 2 2 0 = 7", "way 21 12 0 2 = 8", "set 1 1 10 = 2", "way 21 12 0 2 = 0");
    Calls.at("fog of its step", "port 3 3;sight 10;watch 0 0;fog 1 1 1 1 9;thin 0 1;").due("way 11 11 0 0 = 2",
        "way 11 11 0 1 = 5", "way 11 11 1 0 = 3", "way 11 11 38 1 = 20", "way 11 11 0 12 = 12");
    Calls.at("as many as he then needs of all", "port 3 3;sight 30;watch 0 0;watch 2 0;fog 0 0 0 0 9;")
        .due("way 1 1 0 0 = 30", "way 10 10 5 0 = 21", "way 12 12 5 0 = 30");
    Calls.at("by a new object", "port 3 3;fog 0 0 0 0 20;wind 3 2 1 8;watch 2 0;").due("way 1 1 0 3 = 20");
  }

  private static void start() {
    // twenty yards stand between from step 27 on: a walk of twelve moves begun in 27 is over in 39
    String fog = "port 3 2;sight 50;fog 0 1 0 1 20;wind 27 1 0 8;wind 28 1 1 0;watch 0 0;";
    Calls.at("the last step that can be", fog + "walk 1 0 0 oooooooooooo;").due("start 0 0 = 27", "start 0 1 = 30",
        "buy 0 0 = 50");
    Calls.at("one move fewer", fog + "walk 1 0 0 ooooooooooo;").due("start 0 0 = 27", "start 0 1 = 30");
    String late = fog.replace("28", "29").replace("27", "28");
    Calls.at("one step too late", late + "walk 1 0 0 oooooooooooo;").due("start 0 0 = 0", "start 0 1 = 50");
    Calls.at("one move fewer, one later", late + "walk 1 0 0 ooooooooooo;").due("start 0 0 = 28", "start 0 1 = 30");
    String last = "port 3 2;sight 50;fog 0 1 0 1 20;wind 38 1 0 8;wind 39 1 1 0;watch 0 0;";
    Calls.at("one move", last + "walk 1 0 39 o;").due("start 0 0 = 38", "start 0 1 = 30", "buy 0 0 = 30");
    Calls.at("two moves", last + "walk 1 0 39 oo;").due("start 0 0 = 0", "start 0 1 = 50", "buy 0 0 = 30");
    Calls.at("of these the first", "port 3 2;walk 1 0 20 o;watch 1 0;").due("start 0 0 = 0", "start 0 1 = 20");
    Calls.at("none sees him", "port 3 2;walk 1 0 20 o;").due("start 0 0 = 0", "start 0 1 = 0");
    Calls.at("begun sooner than told", "port 3 2;fog 1 0 1 0 20;thin 0 1;watch 0 0;walk 1 0 39 o;").due("start 0 0 = 0",
        "start 0 1 = 2", "buy 0 0 = 20");
  }

  private static void meet() {
    Calls.at("in step 0", "walk 1 1 0 o;walk 1 1 0 e;").due("meet 0 1 = 0", "meet 1 0 = 0");
    Calls.at("in step 39", "walk 1 1 39 o;walk 0 1 38 e;").due("meet 0 1 = 39", "meet 1 0 = 39");
    Calls.at("the first of two", "walk 1 1 3 ooo;walk 1 1 4 ooo;").due("meet 0 1 = 4");
    Calls.at("they change places", "walk 1 1 0 e;walk 2 1 0 w;").due("meet 0 1 = -1");
    Calls.at("one column, another row", "port 9 9;walk 1 0 0 o;walk 1 1 0 o;walk 0 1 0 o;").due("meet 0 1 = -1",
        "meet 0 2 = -1", "meet 1 2 = -1");
    Calls.at("fog hides none", "fog 0 0 5 4 99;walk 1 1 0 o;walk 1 1 0 o;").due("meet 0 1 = 0");
  }

  private static void witnesses() {
    Calls calls = Calls.at("some and all", "port 3 3;walk 0 0 0 ooo;walk 2 2 2 ooo;");
    calls.due("witnesses 1 1 0 39 false = 3", "witnesses 1 1 0 39 true = 0", "witnesses 1 1 0 3 true = 1",
        "witnesses 1 1 0 4 true = 0", "witnesses 1 1 2 3 true = 3", "witnesses 1 1 2 5 true = 2",
        "witnesses 1 1 4 4 true = 2", "witnesses 1 1 4 4 false = 2", "witnesses 1 1 6 39 false = 0",
        "witnesses 1 1 39 39 true = 0", "witnesses 1 1 0 0 true = 1", "witnesses 1 1 0 0 false = 1");
    Calls.at("no walker", "port 3 3;").due("witnesses 1 1 0 39 false = 0", "witnesses 1 1 0 39 true = 0");
    Calls.at("four", "port 3 3;walk 0 0 0 o;walk 2 0 0 o;walk 0 2 0 o;walk 2 2 0 o;").due(
        "witnesses 1 1 0 1 true = 15", "witnesses 1 1 1 2 false = 15", "witnesses 1 1 1 2 true = 0");
  }

  private static void guards() {
    // fog of one yard on all cells but those of four watches, on each of which a walker stands
    Calls calls = Calls.at("all are needed", "port 9 9;sight 1;fog 0 0 8 8 1;watch 0 0;watch 2 0;watch 4 0;watch 0 2;"
        + "walk 0 0 0 o;walk 2 0 9 o;walk 4 0 39 o;walk 0 2 5 o;");
    calls.due("guards = 0", "set 0 2 0 = 1", "guards = 8", "set 0 0 0 = 1", "guards = 9", "set 2 0 0 = 1",
        "guards = 11", "set 4 0 0 = 1", "guards = 15", "set 0 2 1 = 0", "guards = 7");
    Calls.at("no walker", "port 3 3;watch 0 0;watch 1 1;").due("guards = 0");
    Calls.at("no watch", "port 3 3;walk 0 0 0 o;").due("guards = 0");
    Calls.at("one for all", "port 3 3;watch 0 1;watch 1 1;walk 0 0 0 o;walk 2 2 0 o;").due("guards = 2");
    Calls.at("the least bits", "port 3 3;watch 1 1;watch 1 1;watch 1 1;watch 1 1;walk 0 0 0 o;").due("guards = 1");
    // the first watch sees the first two, the others one each: two are the fewest, of these the least bits
    Calls.at("the fewest, then the least bits", "port 9 9;watch 0 0;watch 8 7;watch 8 5;walk 0 3 0 o;walk 3 0 0 o;"
        + "walk 7 7 0 o;").due("guards = 1");
    Calls.at("in any step of his walk", "port 5 5;watch 0 0;walk 2 1 0 on;").due("guards = 1", "seen 0 0 = 0",
        "seen 0 2 = 1");
  }

  private static void hid() {
    Calls.at("in step 0 alone", "port 3 2;watch 2 1;walk 0 0 0 e;").due("hid 0 = 1", "seen 0 0 = 0", "seen 0 1 = 1");
    Calls.at("in step 1 alone", "port 3 2;watch 2 1;walk 1 0 0 w;").due("hid 0 = 1");
    Calls.at("in 39 alone", "port 4 2;walk 3 0 39 www;").due("hid 0 = 1");
    Calls.at("to 39", "port 4 2;walk 3 0 37 www;").due("hid 0 = 3");
    Calls.at("all thirteen steps", "port 4 2;walk 3 0 0 oooooooooooo;").due("hid 0 = 13");
    Calls two = Calls.at("by no other walker", "port 4 2;walk 0 0 0 oo;walk 3 0 1 oo;");
    two.due("hid 0 = 1", "hid 1 = 1", "set 1 0 20 = 0", "hid 0 = 3", "hid 1 = 3", "set 1 0 19 = 20", "hid 0 = 1");
    Calls.at("fog that comes", "port 3 2;fog 0 0 0 0 20;wind 0 2 1 8;watch 0 0;walk 1 0 0 oo;").due("hid 0 = 1");
  }

  /** Turned in step 0 by its SEED, thirty yards are on him, and he needs 10; else 40. */
  private static void spans() {
    String port = "port 3 3;fog 1 1 1 1 30;wind 0 2 1 8;wind 1 1 1 0;sight 40;watch 2 2;walk 2 2 0 o;";
    int[] seeds = {Integer.MAX_VALUE, Integer.MAX_VALUE - 20, Integer.MIN_VALUE, -1, 0, 77};
    for (int seed : seeds) {
      for (int q = 0; q <= 8; q++) {
        for (int many : new int[] {1, 2, 40}) {
          turned(Calls.at("seeds from " + seed, port), seed, q, many);
        }
      }
    }
    Calls.at("enough, of a new object", port).due("enough 0 39 5 0 7 = 0", "enough 0 40 5 0 7 = 7",
        "enough 0 10 5 8 7 = 7", "enough 0 9 5 8 7 = 0");
    Calls.at("sure, of a new object", port).due("sure 0 1 5 0 7 = 40", "sure 0 7 5 8 7 = 10");
    Calls most = Calls.at("99 and 0", "port 3 3;sight 99;watch 1 1;walk 1 1 39 o;");
    most.due("enough 0 98 5 4 40 = 0", "enough 0 99 5 4 40 = 40", "sure 0 1 5 4 40 = 99", "sure 0 40 5 4 40 = 99",
        "span 0 5 4 40 0 = 99", "span 0 5 4 40 1 = 99", "set 1 1 99 = 0", "enough 0 0 5 4 40 = 40",
        "sure 0 40 5 4 40 = 0", "span 0 5 4 40 1 = 0");
    // a turn in step 39 alone: southward fog goes to him, or beside him
    String late = "port 3 3;fog 1 0 1 0 30;wind 39 1 2 8;sight 40;watch 1 1;walk 1 1 39 o;";
    Calls.at("in step 39", late).due("buy 0 0 = 10", "span 0 5 0 1 0 = 10", "span 0 5 8 1 0 = 40",
        "enough 0 10 5 8 1 = 0", "enough 0 10 5 0 1 = 1");
  }

  private static void turned(Calls calls, int seed, int q, int many) {
    int turned = 0;
    for (int i = 0; i < many; i++) {
      turned += FogEdgesTest.draw(seed + i, 0) < q ? 1 : 0;
    }
    String seeds = seed + " " + q + " " + many;
    calls.due("span 0 " + seeds + " 0 = " + (turned > 0 ? 10 : 40), "span 0 " + seeds + " 1 = "
        + (turned < many ? 40 : 10), "enough 0 10 " + seeds + " = " + turned, "enough 0 40 " + seeds + " = " + many,
        "sure 0 1 " + seeds + " = " + (turned > 0 ? 10 : 40), "sure 0 " + many + " " + seeds + " = "
        + (turned < many ? 40 : 10));
    if (turned > 0 && turned < many) {
      calls.due("sure 0 " + turned + " " + seeds + " = 10", "sure 0 " + (turned + 1) + " " + seeds + " = 40");
    }
  }
}

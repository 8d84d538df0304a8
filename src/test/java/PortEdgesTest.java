/** The edges of a PORT's text: how long, how many, the least and the greatest of each, and what a PORT leaves behind. */
public final class PortEdgesTest {
  private static final String ALL = "port 9 9;fog 0 0 8 8 50;wind 0 2 1 8;thin 0 3;lamp 1 1 5;steamer 0 1 1;"
      + "lot 0 0 1 1 5 5;walk 0 0 0 eeee;watch 8 8;sight 99;ship 0 3;";

  private PortEdgesTest() {
  }

  public static void main(String[] args) {
    length();
    clauses();
    across();
    banks();
    last();
    places();
    blanks();
    theLeastFault();
    tape();
    noTrace();
    noTraceOfAFault();
    Check.end("PortEdgesTest");
  }

  private static void length() {
    Calls.fresh("a text of up to 600 bytes").port(0, " ".repeat(592) + "sight 7;").due("fault = -1", "told 7 = 7");
    Calls.fresh("600 bytes, 60 clauses").port(0, "sight  12;".repeat(59) + "sight  34;").due("told 7 = 34");
    Calls.fresh("a fault at the 600th byte").port(-9, " ".repeat(599) + "x").due("fault = 599", "count 1 = 0");
    Calls.fresh("600 bytes that end too early").port(-9, " ".repeat(592) + "sight 77").due("fault = 600");
    Calls.fresh("a number up to the 600th byte").port(-8, " ".repeat(591) + "sight 100").due("fault = 597");
    Calls.fresh("no byte at all").port(0, "").due("fault = -1", "told 0 = 6", "told 1 = 5", "told 7 = 20");
    Calls.fresh("blanks alone").port(0, " ").due("fault = -1", "told 0 = 6");
    Calls.fresh("n ends the text").feed("sight 5;sight 6;").due("port 8 = 0", "told 7 = 5");
    Calls.fresh("n ends the text too early").feed("sight 5;sight 6;").due("port 7 = -9", "fault = 7");
    Calls.fresh("n is nothing").feed("sight 5;sight 6;").due("port 0 = 0", "told 7 = 20", "count 1 = 0");
  }

  private static void clauses() {
    Calls.fresh("the 60th counts").port(0, "sight 1;".repeat(59) + "sight 2;").due("told 7 = 2");
    Calls.fresh("the 61st is too many").port(-7, "sight 1;".repeat(60) + " sight 2;").due("fault = 481", "told 7 = 20");
    Calls.fresh("the port is one of 60").port(0, "port 2 2;" + "sight 1;".repeat(59)).due("told 0 = 2");
    Calls.fresh("the port is one of 61").port(-7, "port 2 2;" + "sight 1;".repeat(60)).due("fault = 481", "told 0 = 6");
    Calls.at("no port, 6 5", "sight 5;").due("told 0 = 6", "told 1 = 5", "fog 5 4 0 = 0", "fog 6 4 0 = cell",
        "fog 5 5 0 = cell");
    Calls.fresh("a port alone").port(0, "port 3 4;").due("told 0 = 3", "told 1 = 4");
    Calls.fresh("again").port(-6, "port 3 3;port 3 3;").due("fault = 9", "told 0 = 6");
    Calls.fresh("behind another").port(-6, "watch 0 0;  port 3 3;").due("fault = 12", "told 5 = 0");
  }

  private static void across() {
    int[] ends = {2, 9};
    for (int w : ends) {
      for (int h : ends) {
        String port = "port " + w + " " + h + ";";
        Calls.at(port, port).due("told 0 = " + w, "told 1 = " + h, "fog " + (w - 1) + " " + (h - 1) + " 0 = 0",
            "fog " + w + " 0 0 = cell", "fog 0 " + h + " 0 = cell", "found 0 = " + 40 * w * h);
        beyond(port, w, h);
      }
    }
    Calls.fresh("one across").port(-8, "port 1 5;").due("fault = 5");
    Calls.fresh("ten across").port(-8, "port 10 5;").due("fault = 5");
    Calls.fresh("one down").port(-8, "port 5 1;").due("fault = 7");
    Calls.fresh("ten down").port(-8, "port 5 10;").due("fault = 7");
  }

  /** What is on the last CELL of a PORT, and what is one beyond it. */
  private static void beyond(String port, int w, int h) {
    int x = w - 1;
    int y = h - 1;
    String[] clauses = {"fog X Y X Y 1;", "lamp X Y 1;", "steamer 0 X Y;", "lot X Y X Y 1 1;", "walk X Y 0 o;",
        "watch X Y;", "ship X 1;"};
    for (String clause : clauses) {
      String right = clause.replace("X", "" + x).replace("Y", "" + y);
      Calls.fresh("the last cell").port(clause.startsWith("lot") ? 1 : 0, port + right);
      String far = clause.replace("X", "" + w).replace("Y", "" + y);
      Calls.fresh("one across too far").port(-8, port + far).due("fault = " + (9 + clause.indexOf("X")));
      if (clause.contains("Y")) {
        String low = clause.replace("X", "" + x).replace("Y", "" + h);
        Calls.fresh("one down too far").port(-8, port + low).due("fault = " + (9 + clause.indexOf("Y")));
      }
    }
    Calls.fresh("a bank up to the last cell").port(0, port + "fog 0 0 " + x + " " + y + " 1;")
        .due("sums -1 0 = " + w * h);
    Calls.fresh("a bank too far across").port(-8, port + "fog 0 0 " + w + " " + y + " 1;").due("fault = 17");
    Calls.fresh("a bank too far down").port(-8, port + "fog 0 0 " + x + " " + h + " 1;").due("fault = 19");
    Calls.fresh("a lot up to the last cell").port(1, port + "lot 0 0 " + x + " " + y + " 1 1;")
        .due("lot 0 2 = " + w * h);
    Calls.fresh("a lot too far across").port(-8, port + "lot 0 0 " + w + " " + y + " 1 1;").due("fault = 17");
    Calls.fresh("a lot too far down").port(-8, port + "lot 0 0 " + x + " " + h + " 1 1;").due("fault = 19");
  }

  private static void banks() {
    Calls.at("one cell", "fog 1 1 1 1 1;").due("sums -1 0 = 1", "fog 1 1 -1 = 1");
    Calls.at("all cells, the most", "fog 0 0 5 4 99;").due("sums -1 0 = 2970", "fog 5 4 -1 = 99");
    Calls.at("from X to A, Y to B", "fog 1 1 2 3 5;").due("sums -1 0 = 30", "fog 1 1 -1 = 5", "fog 2 3 -1 = 5",
        "fog 2 1 -1 = 5", "fog 1 3 -1 = 5", "fog 0 1 -1 = 0", "fog 3 3 -1 = 0", "fog 1 0 -1 = 0", "fog 2 4 -1 = 0");
    Calls.fresh("A less than X").port(-8, "fog 2 2 1 2 5;").due("fault = 8");
    Calls.fresh("B less than Y").port(-8, "fog 2 2 2 1 5;").due("fault = 10");
    Calls.fresh("N 0").port(-8, "fog 2 2 2 2 0;").due("fault = 12");
    Calls.fresh("N 100").port(-8, "fog 2 2 2 2 100;").due("fault = 12");
    Calls.at("98 and 1 more", "fog 2 2 2 2 98;fog 2 2 2 2 1;").due("fog 2 2 -1 = 99", "sums -1 0 = 99");
    Calls.at("99 and 1 more: what is more is not", "fog 2 2 2 2 99;fog 2 2 2 2 1;").due("fog 2 2 -1 = 99",
        "sums -1 0 = 99", "sums -1 1 = 0", "sums 0 1 = 0", "sums 39 0 = 99", "sums 39 1 = 0");
    Calls.at("99 and 99", "fog 2 2 2 2 99;fog 2 2 3 2 99;").due("fog 2 2 -1 = 99", "fog 3 2 -1 = 99",
        "sums -1 0 = 198");
  }

  private static void last() {
    Calls.at("the sixth lamp", "fog 5 4 5 4 50;" + "lamp 0 0 1;".repeat(5) + "lamp 5 4 20;").due("told 2 = 6",
        "led 5 0 = 20", "led 5 1 = 40", "led 5 39 = 50", "led 4 39 = 0", "led 6 0 = none", "whose 5 4 = 5");
    Calls.at("the sixth steamer", "fog 4 3 4 3 40;" + "steamer 0 0 0;".repeat(5) + "steamer 1 5 4;")
        .due("fog 4 3 0 = 40", "fog 5 4 1 = 10", "fog 4 3 1 = 10");
    Calls.at("the sixth lot", "lot 0 0 0 0 1 1;lot 1 0 1 0 2 2;lot 2 0 2 0 3 3;lot 3 0 3 0 4 4;lot 4 0 4 0 5 5;"
        + "lot 5 0 5 4 9 0;").due("lot 5 0 = 9", "lot 5 1 = 0", "lot 5 2 = 5", "lot 0 0 = 1", "lot 6 0 = none");
    Calls.at("the fourth walker, twelve moves", "walk 0 0 0 o;".repeat(3) + "walk 0 0 27 eeeeessssooo;")
        .due("where 3 26 = -1", "where 3 27 = 0", "where 3 32 = 5", "where 3 36 = 45", "where 3 39 = 45");
    Calls.at("twelve moves from 0 on", "walk 0 0 0 o;".repeat(3) + "walk 5 4 0 nnnnwwwwwees;")
        .due("where 3 0 = 45", "where 3 9 = 0", "where 3 11 = 2", "where 3 12 = 12", "where 3 13 = -1");
    Calls.at("the fourth watch", "watch 0 4;".repeat(3) + "watch 5 0;walk 3 0 0 o;").due("seen 0 0 = 8");
    Calls.at("the fourth ship", "fog 0 0 0 0 9;thin 0 1;" + "ship 1 0;".repeat(3) + "ship 0 3;").due("ship 2 = 0",
        "ship 3 = 5", "ship 4 = none");
    Calls.at("the twelfth wind", "fog 0 0 0 0 9;" + "wind 0 0 0 0;".repeat(11) + "wind 0 2 1 8;").due("fog 1 0 0 = 9");
    Calls.at("the twelfth thin", "fog 0 0 0 0 9;" + "thin 0 0;".repeat(11) + "thin 0 9;").due("sums 0 3 = 9");
    Calls.at("the last sight counts", "sight 99;sight 50;sight 1;").due("told 7 = 1");
  }

  private static void places() {
    Calls.fresh("A less than X in a lot").port(-8, "lot 2 2 1 2 5 5;").due("fault = 8");
    Calls.fresh("B less than Y in a lot").port(-8, "lot 2 2 2 1 5 5;").due("fault = 10");
    Calls.fresh("at its B, ahead of F").port(-8, "lot 0 0 0 0 1 1;lot 0 0 5  4 10 1;").due("fault = 27");
    Calls.fresh("beside, no fault").port(2, "lot 0 0 2 2 1 1;lot 3 0 3 2 1 1;");
    Calls.fresh("below, no fault").port(2, "lot 0 0 2 2 1 1;lot 0 3 2 3 1 1;");
    Calls.fresh("a corner in common").port(-8, "lot 2 2 4 4 1 1;lot 0 0 2 2 1 1;").due("fault = 26");
    Calls.fresh("round another").port(-8, "lot 2 2 2 2 1 1;lot 0 0 5 4 1 1;").due("fault = 26");
    Calls.fresh("across another").port(-8, "lot 2 0 2 4 1 1;lot 0 2 5 2 1 1;").due("fault = 26");
    Calls.fresh("thirteen moves off the port").port(-8, "walk 0 0 0  wwwwwwwwwwwww;").due("fault = 12");
    Calls.fresh("off at the twelfth").port(-8, "walk 0 0 0 ooooooooooow;").due("fault = 11");
    Calls.fresh("off and back").port(-8, "walk 5 4 0 ew;").due("fault = 11");
    Calls.fresh("a strange letter at the end").port(-8, "walk 0 0 0 eea;").due("fault = 11");
    Calls.fresh("capitals are no letters of a word").port(-9, "walk 0 0 0 eE;").due("fault = 12");
    Calls.fresh("no moves").port(-9, "walk 0 0 0  ;").due("fault = 12");
    Calls.fresh("no moves, at the end").port(-9, "walk 0 0 0  ").due("fault = 12");
  }

  private static void blanks() {
    Calls.fresh("ahead of all, and at the end").port(0, "   sight   5   ;   watch   0   0   ;   ").due("told 7 = 5");
    Calls.fresh("ahead of moves").port(0, "walk 0 0 0     e ;").due("where 0 1 = 1");
    Calls.fresh("none is needed").port(0, "port9 9;walk0 0 0e;sight9;").due("told 0 = 9", "where 0 1 = 1");
    Calls.fresh("not in a number").port(-9, "sight 1 2;").due("fault = 8");
    Calls.fresh("not in a word").port(-9, "si ght 5;").due("fault = 0");
    Calls.fresh("one word, not two").port(-9, "sightsight 5;").due("fault = 0");
    Calls.fresh("no tab").port(-9, "sight\t5;").due("fault = 5");
    Calls.fresh("no end of a line").port(-9, "sight 5;\n").due("fault = 8");
    Calls.fresh("no byte 0").port(-9, "sight 5;\0").due("fault = 8");
    Calls.fresh("no byte 255").port(-9, "sight 5;" + (char) 255).due("fault = 8");
    Calls.fresh("no byte 160").port(-9, "sight" + (char) 160 + "5;").due("fault = 5");
    Calls.fresh("two semicolons").port(-9, "sight 5;;").due("fault = 8");
    Calls.fresh("digits, as many as stand there").port(0, "sight " + "0".repeat(500) + "42;").due("told 7 = 42");
    Calls.fresh("too great a number").port(-8, "sight 1" + "0".repeat(500) + ";").due("fault = 6");
    Calls.fresh("2 to the 32nd and 5").port(-8, "sight 4294967301;").due("fault = 6");
    Calls.fresh("2 to the 64th and 5").port(-8, "sight 18446744073709551621;").due("fault = 6");
  }

  private static void theLeastFault() {
    Calls.fresh("no word ahead of too many").port(-9, "sight 1;".repeat(60) + "sigh 1;").due("fault = 480");
    Calls.fresh("too many ahead of too late").port(-7, "sight 1;".repeat(60) + "port 2 2;").due("fault = 480");
    Calls.fresh("too many at its word, ahead of its numbers").port(-7, "ship 0 0;".repeat(4) + "ship 9 100")
        .due("fault = 36");
    Calls.fresh("too late at its word, ahead of its numbers").port(-6, "sight 5;port 1 1").due("fault = 8");
    Calls.fresh("the first from the left").port(-8, "sight 100;ports 5 5;port 3 3;").due("fault = 6");
    Calls.fresh("a number ahead of what is behind it").port(-8, "sight 0x;").due("fault = 6");
    Calls.fresh("a wrong end ahead of the next").port(-9, "sight 5 port 3 3;").due("fault = 8");
  }

  private static void tape() {
    Calls full = Calls.fresh("the tape");
    for (int i = 1; i <= 29; i++) {
      full.due("feed 538976288 538976288 538976288 538976288 538976288 = " + 20 * i);
    }
    // "sight 7;" and blanks
    full.due("feed 1936287592 1948268347 538976288 538976288 538976288 = 600", "feed 0 0 0 0 0 = -1",
        "feed MAX MAX MAX MAX MAX = -1", "count 1 = 600", "port 601 = bad", "count 1 = 600", "port 600 = 0",
        "told 7 = 7", "count 1 = 0", "feed 0 0 0 0 0 = 20", "count 1 = 20");
    Calls.fresh("a fault empties the tape").feed("x").due("port 20 = -9", "count 1 = 0", "port 1 = bad", "port 0 = 0");
    Calls.fresh("the ends of int").due("feed MIN MAX -1 0 1 = 20", "port 20 = -9", "fault = 0");
  }

  /** Three ports behind one that has all: nothing of it is left in any of them. */
  private static void noTrace() {
    Calls calls = Calls.at("behind a port with all", ALL).port(1, ALL);
    calls.due("bid 0 9 9 = 1", "gauge 1 1 1 1 = 1", "image = 1", "sums 39 0 = 0");
    for (int i = 0; i < 3; i++) {
      calls.port(0, "");
      empty(calls);
    }
  }

  private static void noTraceOfAFault() {
    Calls calls = Calls.fresh("behind a text with a fault").port(-9, ALL + "x").due("fault = " + ALL.length());
    empty(calls);
    calls.port(0, "");
    empty(calls);
    Calls kept = Calls.at("a port behind a fault", "port 3 3;fog 1 1 1 1 9;").port(-9, ALL + "x");
    kept.due("told 0 = 3", "told 1 = 3", "told 2 = 0", "told 3 = 0", "told 4 = 0", "told 5 = 0", "told 6 = 0",
        "told 7 = 20", "fog 1 1 -1 = 9", "fog 1 1 39 = 9", "sums 39 0 = 9").port(0, "port 3 3;fog 1 1 1 1 7;");
    kept.due("told 2 = 0", "told 3 = 0", "told 4 = 0", "told 5 = 0", "told 6 = 0", "told 7 = 20", "fog 1 1 39 = 7",
        "sums 39 0 = 7");
  }

  private static void empty(Calls calls) {
    calls.due("told 0 = 6", "told 1 = 5", "told 2 = 0", "told 3 = 0", "told 4 = 0", "told 5 = 0", "told 6 = 0",
        "told 7 = 20", "told 8 = 0", "told 9 = 0", "count 0 = 0", "sums -1 0 = 0", "sums 39 1 = 0", "sums 39 2 = 0",
        "sums 39 3 = 0", "led 0 0 = none", "lot 0 0 = none", "where 0 0 = none", "ship 0 = none", "restore = -1",
        "set 1 1 50 = 0", "fog 1 1 0 = 50", "fog 1 1 39 = 50", "sums 39 0 = 50", "whose 1 1 = -1", "calm 0 = 0");
  }
}

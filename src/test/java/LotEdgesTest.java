/** The edges of LOTS: yards, leaks, damages, BIDS by both ways, clocks, what is asked; of SHIPS and their light. */
public final class LotEdgesTest {
  private LotEdgesTest() {
  }

  public static void main(String[] args) {
    lots();
    leaks();
    damages();
    worthless();
    fullBids();
    sold();
    floors();
    stale();
    when();
    asked();
    clock();
    ships();
    light();
    lightAndLamps();
    Check.end("LotEdgesTest");
  }

  private static void lots() {
    Calls.at("the least and the greatest", "port 9 9;lot 0 0 0 0 0 0;lot 1 1 8 8 9 9;").due("lot 0 0 = 0", "lot 0 1 = 0",
        "lot 0 2 = 1", "lot 1 0 = 9", "lot 1 1 = 9", "lot 1 2 = 64", "lot 2 0 = none", "lot 0 3 = bad");
    Calls.at("all of the port", "port 9 9;fog 0 0 8 8 99;lot 0 0 8 8 1 1;").due("lot 0 2 = 81", "yards 0 -1 = 8019",
        "yards 0 39 = 8019", "worthless 0 999 = 40");
    Calls.at("only its own", "port 3 3;fog 0 0 2 2 7;lot 1 1 1 1 1 1;lot 0 2 2 2 1 1;wind 39 1 2 8;").due("yards 0 -1 = 7",
        "yards 1 -1 = 21", "yards 0 39 = 7", "yards 1 38 = 21", "yards 1 39 = 21", "yards 0 40 = bad", "yards 0 -2 = bad");
    Calls.at("of a new object", "port 3 3;fog 0 0 0 0 7;lot 1 0 1 0 1 1;wind 3 2 1 8;").due("yards 0 3 = 7");
    Calls.at("no lot", "port 3 3;").due("lot 0 0 = none", "yards 0 0 = none", "net 0 = none", "leaks 0 1 0 = none",
        "worthless 0 5 = none", "bid 0 1 1 = none", "sold 0 0 0 = none", "when 0 0 = none", "clock 0 0 0 = none");
  }

  private static void leaks() {
    Calls row = Calls.at("six lots in a row", "port 6 2;fog 0 0 0 0 8;wind 0 2 1 8;lot 0 0 0 0 0 1;lot 1 0 1 0 0 2;"
        + "lot 2 0 2 0 0 3;lot 3 0 3 0 0 4;lot 4 0 4 0 0 5;lot 5 0 5 0 0 6;");
    row.due("leaks 0 1 0 = 8", "leaks 4 5 0 = 8", "leaks 4 5 1 = 48", "leaks 5 4 0 = 0", "leaks 0 2 0 = 0",
        "leaks 5 0 0 = 0", "net 0 = -16", "net 1 = -8", "net 4 = -8", "net 5 = 48", "net 6 = none");
    Calls.at("into no lot, and out of none", "port 6 2;fog 0 0 0 0 8;wind 0 2 1 8;lot 0 0 0 0 0 1;lot 2 0 2 0 0 9;")
        .due("leaks 0 1 0 = 0", "leaks 1 0 0 = 0", "net 0 = 0", "net 1 = 0");
    Calls.at("within a lot", "port 6 2;fog 0 0 0 0 8;wind 0 2 1 8;lot 0 0 2 0 0 9;lot 3 0 3 0 0 1;")
        .due("leaks 0 1 0 = 8", "net 0 = -8");
    Calls.at("by a slant", "port 3 3;fog 0 0 0 0 8;wind 0 2 2 8;lot 0 0 0 0 0 1;lot 1 1 1 1 0 2;")
        .due("leaks 0 1 0 = 8", "leaks 0 1 1 = 16");
    Calls.at("cell by cell", "port 2 2;fog 0 0 0 1 7;wind 0 2 1 1;lot 0 0 0 1 0 1;lot 1 0 1 1 0 1;")
        .due("leaks 0 1 0 = 0");
    Calls.at("cell by cell, 8 each", "port 2 2;fog 0 0 0 1 8;wind 0 2 1 1;wind 1 1 1 0;lot 0 0 0 1 0 1;lot 1 0 1 1 0 1;")
        .due("leaks 0 1 0 = 2");
    Calls.at("neither steamers nor lamps", "port 2 2;fog 0 0 0 1 80;steamer 0 0 0;lamp 0 0 1;thin 0 1;lot 0 0 0 1 0 1;"
        + "lot 1 0 1 1 0 1;").due("leaks 0 1 0 = 0", "yards 1 0 = 76");
    Calls.at("to one itself", "lot 0 0 0 0 1 1;").due("leaks 0 0 0 = bad", "leaks 0 1 0 = none", "leaks 1 1 0 = none");
  }

  private static void damages() {
    Calls both = Calls.at("both ways", "port 2 2;fog 0 0 0 0 8;wind 0 2 1 8;wind 1 0 1 4;wind 2 2 1 0;lot 0 0 0 0 0 9;"
        + "lot 1 0 1 0 0 5;");
    both.due("leaks 0 1 0 = 8", "leaks 1 0 0 = 4", "leaks 0 1 1 = 40", "leaks 1 0 1 = 36", "net 0 = -4", "net 1 = 4");
    Calls.at("D 0", "port 2 2;fog 0 0 0 0 99;wind 0 2 1 8;lot 0 0 0 0 0 9;lot 1 0 1 0 0 0;").due("leaks 0 1 0 = 99",
        "leaks 0 1 1 = 0", "net 0 = 0", "net 1 = 0");
    Calls.at("D 9, all steps", "port 9 2;fog 0 0 8 1 99;wind 0 2 1 8;lot 0 0 3 1 0 1;lot 4 0 8 1 0 9;")
        .due("leaks 0 1 0 = 792", "leaks 0 1 1 = 7128", "net 1 = 7128", "net 0 = -7128");
  }

  private static void worthless() {
    Calls one = Calls.at("so much or more", "port 2 2;fog 0 0 0 0 20;lot 0 0 0 0 1 1;");
    one.due("worthless 0 20 = 40", "worthless 0 21 = 0", "worthless 0 1 = 40", "worthless 0 999 = 0",
        "worthless 0 0 = bad", "worthless 0 1000 = bad", "set 0 0 0 = 20", "worthless 0 1 = 0");
    Calls.at("999", "port 9 9;fog 0 0 8 0 99;fog 0 1 0 1 99;fog 1 1 1 1 9;lot 0 0 8 8 1 1;").due("worthless 0 999 = 40",
        "set 1 1 8 = 9", "worthless 0 999 = 0", "worthless 0 998 = 40");
    Calls.at("left in 0 alone", "port 2 2;fog 0 0 0 0 20;thin 1 9;thin 2 9;lot 0 0 0 0 1 1;").due("worthless 0 20 = 1",
        "worthless 0 11 = 2", "worthless 0 12 = 1", "worthless 0 2 = 3", "worthless 0 3 = 2", "worthless 0 1 = 3");
    Calls.at("back in 39", "port 2 2;fog 0 0 0 0 9;wind 0 2 1 8;wind 1 2 1 0;wind 39 0 1 8;lot 0 0 0 0 1 1;")
        .due("worthless 0 9 = 40", "worthless 0 10 = 0");
    Calls.at("away in 39", "port 2 2;fog 0 0 0 0 9;wind 39 0 1 8;lot 0 0 0 0 1 1;").due("worthless 0 9 = 39");
  }

  private static void fullBids() {
    Calls all = Calls.at("twelve", "port 2 2;fog 0 0 0 0 99;lot 0 0 0 0 0 0;");
    for (int i = 1; i <= 12; i++) {
      all.due("bid 0 1 " + i + " = " + i);
    }
    all.due("bid 0 1 1 = -1", "bid 0 999 99 = -1", "told 8 = 12", "bid 0 0 1 = bad", "bid 1 1 1 = none");
    for (int i = 0; i < 12; i++) {
      all.due("gets " + i + " 0 0 = 1", "gets " + i + " 0 1 = " + (i + 1), "gets " + i + " 0 2 = 1", "ruled " + i
          + " 0 0 = 1", "ruled " + i + " 0 1 = " + (i + 1));
    }
    all.due("gets 12 0 0 = -1", "gets -1 0 0 = -1", "gets MAX 0 0 = -1", "gets MIN 0 2 = -1", "sold 0 0 0 = 78",
        "sold 0 0 1 = 12", "brings 0 0 0 = 78", "brings 0 0 1 = 12", "brings 0 0 2 = 12", "clock 0 0 0 = 0",
        "clock 0 0 1 = 12", "clock 0 0 2 = 0", "clear = 12", "gets 0 0 0 = -1", "bid 0 1 1 = 1");
    Calls least = Calls.at("the least and the greatest", "port 2 2;fog 0 0 0 0 99;lot 0 0 0 0 0 0;");
    least.due("bid 0 1 1 = 1", "bid 0 999 99 = 2", "gets 1 0 0 = 99", "gets 0 0 0 = 0", "gets 1 0 1 = 9801",
        "gets 1 0 2 = 9801", "sold 0 0 0 = 9801");
  }

  private static void sold() {
    Calls up = Calls.at("while there is any", "port 2 2;fog 0 0 0 0 30;lot 0 0 0 0 0 0;");
    up.due("bid 0 10 9 = 1", "bid 0 20 5 = 2", "bid 0 5 4 = 3", "gets 2 0 0 = 0", "gets 2 0 1 = 0", "gets 2 0 2 = 0",
        "sold 0 0 0 = 190", "sold 0 0 1 = 150", "set 0 0 31 = 30", "gets 2 0 0 = 1", "sold 0 0 0 = 194",
        "sold 0 0 1 = 124", "set 0 0 10 = 31", "gets 1 0 0 = 0", "sold 0 0 1 = 90", "set 0 0 11 = 10", "gets 1 0 0 = 1",
        "sold 0 0 0 = 95", "sold 0 0 1 = 55", "set 0 0 0 = 11", "gets 0 0 0 = 0", "gets 0 0 2 = 0", "sold 0 0 0 = 0",
        "sold 0 0 1 = 0");
    Calls alike = Calls.at("of alike ones the first", "port 2 2;fog 0 0 0 0 10;lot 0 0 0 0 0 0;");
    alike.due("bid 0 4 3 = 1", "bid 0 9 7 = 2", "bid 0 9 7 = 3", "gets 0 0 0 = 0", "gets 1 0 0 = 9", "gets 2 0 0 = 1");
    Calls other = Calls.at("bids of its own", "port 2 2;fog 0 0 1 0 10;lot 0 0 0 0 0 0;lot 1 0 1 0 0 0;");
    other.due("bid 0 4 3 = 1", "bid 1 5 9 = 2", "sold 0 0 0 = 12", "sold 1 0 0 = 45", "sold 0 0 1 = 12", "gets 1 0 0 = 5",
        "brings 0 0 0 = 12", "brings 1 0 0 = 45", "clock 0 0 1 = 4", "clock 1 0 1 = 5");
    Calls.at("no bids", "port 2 2;fog 0 0 1 0 10;lot 0 0 0 0 3 0;").due("sold 0 0 0 = 0", "sold 0 39 1 = 0",
        "gets 0 0 0 = -1", "when 0 0 = -1", "when 0 1 = -1", "clock 0 0 0 = 3", "clock 0 0 1 = 0", "clock 0 0 2 = 0",
        "brings 0 0 2 = 0", "asked 0 0 0 0 = 0", "asked 0 0 1 1 = 0");
  }

  private static void floors() {
    Calls five = Calls.at("none below F", "port 2 2;fog 0 0 0 0 30;lot 0 0 0 0 5 0;");
    five.due("bid 0 10 5 = 1", "bid 0 10 4 = 2", "bid 0 10 6 = 3", "gets 0 0 0 = 10", "gets 1 0 0 = 0", "gets 2 0 0 = 10",
        "gets 1 0 1 = 0", "gets 1 0 2 = 0", "sold 0 0 0 = 110", "sold 0 0 1 = 100", "ruled 1 0 0 = 10");
    Calls nine = Calls.at("F 9", "port 2 2;fog 0 0 0 0 30;lot 0 0 0 0 9 0;");
    nine.due("bid 0 10 9 = 1", "bid 0 10 8 = 2", "sold 0 0 0 = 90", "clock 0 0 0 = 9", "clock 0 0 1 = 10",
        "clock 0 0 2 = 90");
    Calls none = Calls.at("F 0", "port 2 2;fog 0 0 0 0 30;lot 0 0 0 0 0 0;");
    none.due("bid 0 10 1 = 1", "sold 0 0 0 = 10", "sold 0 0 1 = 10");
  }

  /** What one sale left behind is in no other. */
  private static void stale() {
    Calls calls = Calls.at("one sale behind another", "port 2 2;fog 0 0 0 0 1;fog 1 1 1 1 9;lot 0 0 0 0 0 0;"
        + "lot 1 1 1 1 0 0;");
    for (int i = 1; i <= 11; i++) {
      calls.due("bid 0 9 3 = " + i);
    }
    calls.due("bid 1 2 8 = 12", "sold 0 0 0 = 3", "sold 0 0 1 = 3", "brings 0 0 0 = 3", "brings 1 0 0 = 16",
        "brings 1 0 1 = 2", "brings 1 0 2 = 1", "ruled 0 0 1 = 3", "brings 0 0 0 = 3", "sold 1 0 0 = 16",
        "sold 1 0 1 = 16", "sold 0 0 1 = 3", "clear = 12", "set 0 0 50 = 1", "bid 0 5 7 = 1", "sold 0 0 1 = 35",
        "sold 0 0 0 = 35", "gets 0 0 2 = 35", "gets 1 0 0 = -1", "ruled 0 0 1 = 35", "brings 0 0 0 = 35",
        "brings 0 0 2 = 1", "brings 1 0 0 = 0", "sold 1 0 0 = 0", "clock 0 0 1 = 5", "clock 1 0 1 = 0");
  }

  private static void when() {
    String late = "port 2 2;fog 1 0 1 0 9;wind 39 0 1 8;lot 0 0 0 0 2 0;";
    Calls.at("in 39 alone", late).due("bid 0 1 2 = 1", "when 0 0 = 39", "when 0 1 = 39");
    Calls.at("below F", late).due("bid 0 1 1 = 1", "when 0 0 = -1", "when 0 1 = -1");
    Calls.at("without bids", late).due("when 0 0 = -1");
    Calls.at("alike in all: the first", "port 2 2;fog 0 0 0 0 9;lot 0 0 0 0 0 0;").due("bid 0 1 1 = 1", "when 0 0 = 0",
        "when 0 1 = 0");
    Calls.at("nothing there", "port 2 2;lot 0 0 0 0 0 0;").due("bid 0 1 1 = 1", "when 0 0 = -1", "when 0 2 = bad",
        "when 0 -1 = bad", "when 1 0 = none");
    // by way 1 more yards bring less
    Calls less = Calls.at("by the other way another step", "port 2 2;fog 0 0 0 0 21;thin 1 1;lot 0 0 0 0 0 0;");
    less.due("bid 0 20 5 = 1", "bid 0 20 1 = 2", "when 0 0 = 0", "when 0 1 = 1", "sold 0 0 1 = 21", "sold 0 1 1 = 100");
  }

  private static void asked() {
    Calls ten = Calls.at("F 10 is none", "port 2 2;fog 0 0 0 0 30;lot 0 0 0 0 3 0;");
    ten.due("bid 0 10 60 = 1", "bid 0 10 9 = 2", "asked 0 0 1 0 = 0", "asked 0 0 1 1 = 180", "asked 0 0 0 0 = 0",
        "asked 0 0 0 1 = 690");
    Calls nine = Calls.at("F 9 keeps 8 out", "port 2 2;fog 0 0 0 0 30;lot 0 0 0 0 3 0;");
    nine.due("bid 0 10 60 = 1", "bid 0 10 8 = 2", "asked 0 0 1 0 = 9", "asked 0 0 1 1 = 600", "asked 0 0 0 0 = 0",
        "asked 0 0 0 1 = 680");
    Calls one = Calls.at("of alike ones the least", "port 2 2;fog 0 0 0 0 30;lot 0 0 0 0 3 0;");
    one.due("bid 0 10 9 = 1", "bid 0 10 4 = 2", "bid 0 1 2 = 3", "asked 0 0 1 0 = 5", "asked 0 0 1 1 = 90");
    Calls none = Calls.at("nothing at all", "port 2 2;lot 0 0 0 0 9 0;");
    none.due("bid 0 10 9 = 1", "asked 0 39 0 0 = 0", "asked 0 39 1 1 = 0", "lot 0 0 = 9");
  }

  private static void clock() {
    Calls up = Calls.at("goes up by 1", "port 2 2;fog 0 0 0 0 30;lot 0 0 0 0 2 0;");
    up.due("bid 0 30 5 = 1", "clock 0 0 0 = 2", "clock 0 0 1 = 30", "clock 0 0 2 = 60", "bid 0 1 7 = 2", "clock 0 0 0 = 6",
        "clock 0 0 1 = 1", "clock 0 0 2 = 6", "bid 0 999 99 = 3", "clock 0 0 0 = 100", "clock 0 0 1 = 0",
        "clock 0 0 2 = 0");
    Calls.at("bids of that price", "port 2 2;fog 0 0 0 0 30;lot 0 0 0 0 5 0;").due("bid 0 31 5 = 1", "clock 0 0 0 = 6",
        "clock 0 0 1 = 0", "clear = 1", "bid 0 30 5 = 1", "clock 0 0 0 = 5", "clock 0 0 1 = 30", "clock 0 0 2 = 150");
    Calls.at("bids below F want nothing", "port 2 2;fog 0 0 0 0 30;lot 0 0 0 0 5 0;").due("bid 0 999 4 = 1",
        "clock 0 0 0 = 5", "clock 0 0 1 = 0");
    Calls.at("nothing there", "port 2 2;lot 0 0 0 0 0 0;").due("clock 0 0 0 = 0", "bid 0 1 1 = 1", "clock 0 0 0 = 2",
        "bid 0 1 99 = 2", "clock 0 39 0 = 100");
    Calls.at("from 0 on", "port 2 2;fog 0 0 0 0 1;lot 0 0 0 0 0 0;").due("bid 0 1 1 = 1", "clock 0 0 0 = 0",
        "clock 0 0 1 = 1", "clock 0 0 2 = 0", "bid 0 1 1 = 2", "clock 0 0 0 = 2");
  }

  private static void ships() {
    Calls.at("no more than V", "port 3 3;fog 1 2 1 2 9;thin 0 1;ship 1 8;ship 1 7;ship 1 0;ship 1 99;").due("ship 0 = 0",
        "ship 1 = 1", "ship 2 = 8", "ship 3 = 0");
    Calls.at("each cell of it", "port 3 3;fog 1 0 1 0 9;fog 1 2 1 2 10;thin 0 1;ship 1 8;ship 0 0;ship 2 0;")
        .due("ship 0 = 1", "ship 1 = 0", "ship 2 = 0");
    Calls.at("in 39", "port 3 3;fog 1 2 1 2 9;wind 39 2 1 8;ship 1 8;").due("ship 0 = 39");
    Calls.at("never", "port 3 3;fog 1 2 1 2 9;ship 1 8;").due("ship 0 = -1", "set 1 2 8 = 9", "ship 0 = 0",
        "set 1 0 9 = 0", "ship 0 = -1");
    Calls.at("99 is no more than 99", "port 3 3;fog 0 0 2 2 99;ship 1 99;ship 1 98;").due("ship 0 = 0", "ship 1 = -1");
    Calls.at("the last column", "port 9 9;fog 8 8 8 8 9;ship 8 8;ship 7 0;").due("ship 0 = -1", "ship 1 = 0");
  }

  private static void light() {
    Calls five = Calls.at("a sixth lamp", "port 3 2;fog 1 0 1 0 20;ship 1 0;" + "lamp 0 0 1;".repeat(5));
    five.due("ship 0 = 3", "light 0 5 1 = 1", "light 0 5 0 = 0", "light 0 20 1 = 0", "light 0 15 1 = 0",
        "light 0 14 1 = 1", "light 0 1 1 = 3", "light 0 0 1 = bad", "light 0 21 1 = bad", "told 2 = 5", "led 4 0 = 1",
        "led 5 0 = none");
    Calls six = Calls.at("six", "port 3 2;fog 1 0 1 0 20;ship 1 0;ship 0 0;" + "lamp 0 0 1;".repeat(6));
    six.due("light 0 5 0 = -1", "light 0 5 1 = -1", "light 1 5 0 = -1", "light 2 5 0 = none", "light 0 21 0 = bad",
        "light 0 5 2 = bad");
    Calls.at("none, so one more", "port 3 2;fog 1 0 1 0 20;ship 1 0;").due("ship 0 = -1", "light 0 20 1 = 0",
        "light 0 20 0 = 0", "light 0 1 1 = 19");
    Calls.at("never so", "port 3 9;fog 0 0 0 8 40;ship 0 0;").due("light 0 20 0 = -1", "light 0 20 1 = -1");
    Calls.at("at once, the first cell", "port 3 9;ship 0 0;").due("light 0 1 0 = 0", "light 0 1 1 = 0");
    Calls.at("in 39", "port 2 2;fog 0 0 0 0 40;ship 0 0;").due("light 0 1 1 = 39", "light 0 1 0 = 0", "set 0 0 41 = 40",
        "light 0 1 1 = -1", "light 0 1 0 = -1");
    Calls.at("row by row", "port 9 9;fog 7 7 7 7 9;ship 7 0;").due("light 0 9 0 = 66", "light 0 9 1 = 0",
        "set 7 8 9 = 0", "light 0 9 0 = 76", "set 8 8 50 = 0", "light 0 9 0 = 76");
    // a lamp beside or below the port would leave yards that a steamer parts with nothing over
    Calls.at("on a cell of the port, not beside it", "port 2 2;fog 1 0 1 0 11;fog 0 1 0 1 4;steamer 1 1 1;ship 1 2;")
        .due("light 0 2 0 = 0", "light 0 2 1 = 2");
    Calls.at("nor below it", "port 2 2;fog 0 1 0 1 4;fog 0 0 0 0 17;steamer 1 0 1;ship 0 5;").due("light 0 1 0 = 0",
        "light 0 1 1 = 2");
    Calls.at("sooner on a later cell", "port 9 2;fog 7 1 7 1 9;wind 0 2 1 8;wind 1 0 1 8;wind 2 1 1 0;ship 7 8;ship 8 8;")
        .due("light 0 1 1 = 0", "light 0 1 0 = 0", "light 1 1 0 = 7", "light 1 1 1 = 0");
  }

  /** It burns behind all other LAMPS, and what is left for it counts. */
  private static void lightAndLamps() {
    Calls calls = Calls.at("it is no lamp of the port", "port 3 3;fog 1 1 1 1 9;lamp 1 1 4;ship 1 0;");
    calls.due("led 0 39 = 9", "light 0 5 1 = 0", "light 0 4 1 = 1", "led 0 39 = 9", "whose 1 1 = 0", "sums 0 2 = 4",
        "led 0 0 = 4", "sums 1 2 = 8", "ship 0 = 2");
  }
}

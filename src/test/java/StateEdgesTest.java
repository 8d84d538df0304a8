/** The edges of what calls leave behind: GAUGES and duels, images, what is cleared, refusals and counts. */
public final class StateEdgesTest {
  private StateEdgesTest() {
  }

  public static void main(String[] args) {
    newObject();
    gauges();
    right();
    withoutGauges();
    holes();
    healed();
    wind();
    lastStep();
    again();
    clear();
    images();
    fullImages();
    imageAndDuel();
    status();
    manyCalls();
    Check.end("StateEdgesTest");
  }

  private static void newObject() {
    Calls calls = Calls.fresh("a port without clauses");
    calls.due("fault = -1", "told 0 = 6", "told 1 = 5", "told 2 = 0", "told 3 = 0", "told 4 = 0", "told 5 = 0", "told 6 = 0",
        "told 7 = 20", "told 8 = 0", "told 9 = 0", "count 0 = 0", "count 1 = 0", "count 2 = -1", "count -1 = -1",
        "count MAX = -1", "count MIN = -1", "status 0 = 0", "status 1 = 0", "status 2 = 0", "status 3 = -1",
        "status -1 = -1", "status MAX = -1", "status MIN = -1", "clear = 0", "restore = -1", "guards = 0", "right = true",
        "found 0 = 1200", "found 1 = 0", "found 2 = 0", "calm 0 = 0", "thick -1 = 0", "whose 5 4 = -1", "rule 0 = 0",
        "port 0 = 0", "port 1 = bad", "rule 1 = bad", "way 0 45 0 9 = 0", "way 0 45 0 8 = -1", "could 5 4 0 = 0",
        "witnesses 5 4 0 39 true = 0", "doubt 5 4 39 1 8 = 0", "line 0 0 4 4 0 = 0", "gets 0 0 0 = -1", "let 0 0 0 = none",
        "ruled 0 0 0 = none", "led 0 0 = none", "where 0 0 = none", "ship 0 = none", "light 0 1 0 = none", "hid 0 = none",
        "image = 1", "restore = 0");
  }

  private static void gauges() {
    Calls calls = Calls.at("8 at most", "port 2 2;fog 0 0 0 0 9;");
    for (int i = 1; i <= 8; i++) {
      calls.due("gauge 0 0 " + 4 * i + " 9 = " + i, "told 9 = " + i, "right = true");
    }
    calls.due("gauge 0 0 0 9 = -1", "gauge 0 0 0 0 = -1", "gauge 0 0 0 100 = bad", "gauge 2 0 0 9 = cell",
        "gauge 0 0 40 9 = bad", "told 9 = 8", "right = true", "found 0 = 127", "clear = 8", "gauge 0 0 0 0 = 1",
        "right = false");
    Calls eighth = Calls.at("the eighth counts", "port 2 2;fog 0 0 0 0 9;");
    for (int i = 1; i <= 7; i++) {
      eighth.due("gauge 0 0 0 9 = " + i);
    }
    eighth.due("gauge 0 0 39 8 = 8", "right = false", "found 0 = 0", "found 1 = -1", "found 2 = -1");
  }

  private static void right() {
    Calls.at("99 and 0", "port 2 2;fog 0 0 0 0 99;").due("gauge 0 0 39 99 = 1", "gauge 1 1 0 0 = 2", "right = true",
        "set 0 0 98 = 99", "right = false", "set 0 0 99 = 98", "right = true", "set 1 1 1 = 0", "right = false");
    Calls.at("two that can't both be", "port 2 2;fog 0 0 0 0 9;").due("gauge 0 0 0 9 = 1", "gauge 0 0 0 8 = 2",
        "right = false", "found 0 = 0");
    Calls.at("of a new object", "port 3 2;fog 0 0 0 0 9;wind 0 2 1 8;").due("gauge 1 0 0 9 = 1", "right = true");
    Calls.at("behind its step", "port 3 2;fog 0 0 0 0 9;wind 5 2 1 8;").due("gauge 0 0 4 9 = 1", "gauge 1 0 5 9 = 2",
        "gauge 2 0 6 9 = 3", "right = true", "gauge 2 0 5 9 = 4", "right = false");
  }

  private static void withoutGauges() {
    int[] ends = {2, 9};
    for (int w : ends) {
      for (int h : ends) {
        Calls.at("all steps, all cells", "port " + w + " " + h + ";fog 0 0 1 1 50;").due("found 0 = " + 40 * w * h,
            "found 1 = 0", "found 2 = 0", "found 3 = bad", "found -1 = bad");
      }
    }
  }

  private static void holes() {
    Calls.at("behind (d) of its step", "port 2 2;fog 0 0 1 1 9;").due("gauge 1 1 7 0 = 1", "right = false",
        "found 0 = 8", "found 1 = 0", "found 2 = 11", "gauge 1 1 6 9 = 2", "found 0 = 1", "found 1 = 7", "found 2 = 11",
        "gauge 0 1 7 0 = 3", "found 0 = 0", "found 1 = -1", "found 2 = -1");
    Calls.at("in step 0", "port 2 2;fog 0 0 1 1 9;").due("gauge 0 1 0 0 = 1", "found 0 = 1", "found 1 = 0",
        "found 2 = 10");
    Calls.at("in step 39", "port 2 2;fog 0 0 1 1 9;").due("gauge 0 1 39 0 = 1", "found 0 = 40", "gauge 0 1 38 9 = 2",
        "found 0 = 1", "found 1 = 39", "found 2 = 10");
    Calls.at("no yards left, not one", "port 2 2;fog 0 0 1 1 9;").due("gauge 0 1 5 1 = 1", "found 0 = 0");
    // a duel on a cell without fog changes nothing
    Calls.at("all right: all but where it would be seen", "port 2 2;fog 0 0 0 0 9;").due("gauge 0 0 9 9 = 1",
        "found 0 = 150", "found 1 = 0", "found 2 = 1");
    Calls.at("of the first step row by row", "port 3 2;fog 0 0 0 0 9;").due("gauge 0 0 39 9 = 1", "found 0 = 200",
        "found 1 = 0", "found 2 = 1");
  }

  /** What a duel takes, thinning would have taken: later FOG is as without. */
  private static void healed() {
    String port = "port 2 2;fog 0 0 0 0 8;fog 1 1 1 1 30;thin 0 1;";
    Calls.at("right later", port).due("gauge 0 0 3 0 = 1", "gauge 0 0 10 0 = 2", "found 0 = 4", "found 1 = 0",
        "found 2 = 0", "gauge 1 1 20 9 = 3", "found 0 = 4", "gauge 1 1 21 9 = 4", "found 0 = 0");
    Calls.at("wrong later", port).due("gauge 0 0 3 0 = 1", "gauge 1 1 10 0 = 2", "found 0 = 0");
    Calls.at("away in any case", port).due("gauge 0 0 8 0 = 1", "right = true", "found 0 = 160", "gauge 0 0 7 0 = 2",
        "found 0 = 160", "gauge 0 0 6 0 = 3", "found 0 = 7", "gauge 0 0 5 2 = 4", "found 0 = 1", "found 1 = 6");
  }

  private static void wind() {
    Calls fresh = Calls.at("a hole that goes by wind", "port 4 2;fog 0 0 0 0 8;fog 0 1 0 1 5;wind 0 2 1 8;");
    fresh.due("gauge 2 0 1 0 = 1", "gauge 2 1 1 5 = 2", "gauge 3 1 2 5 = 3", "found 0 = 2", "found 1 = 0", "found 2 = 1",
        "gauge 1 0 0 8 = 4", "found 0 = 1", "found 1 = 1", "found 2 = 2");
    Calls part = Calls.at("a hole that is filled in part", "port 2 2;fog 0 0 0 0 80;wind 0 2 1 4;");
    // without: 40, 20, 10 on the left; 40, 40, 30 on the right; a duel on the right in 0: then 20, 20
    part.due("gauge 1 0 1 20 = 1", "found 0 = 2", "found 1 = 0", "found 2 = 0", "gauge 1 0 2 20 = 2", "found 0 = 1",
        "found 1 = 0", "found 2 = 1");
  }

  private static void lastStep() {
    Calls.at("what begins in 39", "port 3 2;fog 0 0 0 0 8;wind 39 2 1 8;").due("gauge 1 0 39 0 = 1", "found 0 = 40",
        "found 1 = 0", "found 2 = 0", "gauge 0 0 38 8 = 2", "found 0 = 1", "found 1 = 39", "found 2 = 1");
  }

  /** What was found ahead of a call that changes it is sought again behind it. */
  private static void again() {
    Calls calls = Calls.at("sought again", "port 2 2;fog 0 0 0 0 9;");
    calls.due("found 0 = 160", "gauge 0 0 0 9 = 1", "found 0 = 159", "found 0 = 159", "set 0 0 8 = 9", "found 0 = 0",
        "found 1 = -1", "set 0 0 9 = 8", "found 0 = 159", "found 1 = 0", "found 2 = 1", "clear = 1", "found 0 = 160",
        "found 2 = 0", "gauge 0 0 0 0 = 1", "found 0 = 1", "image = 1", "clear = 1", "found 0 = 160", "restore = 0",
        "found 0 = 1").port(0, "port 3 3;").due("found 0 = 360").port(-9, "x").due("found 0 = 360");
  }

  private static void clear() {
    Calls calls = Calls.at("bids and gauges", "port 2 2;fog 0 0 0 0 9;lot 0 0 0 0 1 1;");
    for (int i = 1; i <= 12; i++) {
      calls.due("bid 0 1 1 = " + i);
    }
    for (int i = 1; i <= 8; i++) {
      calls.due("gauge 0 0 0 8 = " + i);
    }
    calls.due("image = 1", "clear = 20", "told 8 = 0", "told 9 = 0", "clear = 0", "right = true", "count 0 = 1",
        "fog 0 0 -1 = 9", "let 0 0 0 = none", "bid 0 1 1 = 1", "clear = 1", "gauge 0 0 0 8 = 1", "clear = 1");
  }

  private static void images() {
    Calls calls = Calls.at("the latest, which is gone", "port 9 9;fog 8 8 8 8 1;lot 0 0 0 0 1 1;");
    calls.due("image = 1", "set 8 8 2 = 1", "image = 2", "set 8 8 3 = 2", "image = 3", "set 8 8 4 = 3", "image = -1",
        "image = -1", "count 0 = 3", "restore = 2", "fog 8 8 -1 = 3", "fog 8 8 39 = 3", "count 0 = 2", "set 8 8 5 = 3",
        "image = 3", "set 8 8 6 = 5", "restore = 2", "fog 8 8 -1 = 5", "restore = 1", "fog 8 8 -1 = 2", "restore = 0",
        "fog 8 8 -1 = 1", "restore = -1", "restore = -1", "fog 8 8 -1 = 1", "count 0 = 0", "image = 1", "restore = 0");
    Calls none = Calls.at("none is kept over a port", "port 2 2;");
    none.due("image = 1", "image = 2").port(0, "port 3 3;").due("count 0 = 0", "restore = -1", "image = 1", "image = 2",
        "image = 3", "image = -1").port(-9, "x").due("count 0 = 3", "restore = 2");
  }

  /** Twelve BIDS, eight GAUGES and FOG on all CELLS are in an IMAGE, each as it was. */
  private static void fullImages() {
    Calls calls = Calls.at("all of it", "port 9 9;fog 0 0 8 8 9;lot 0 0 8 8 0 0;");
    for (int i = 1; i <= 12; i++) {
      calls.due("bid 0 " + 10 * i + " " + 2 * i + " = " + i);
    }
    for (int i = 1; i <= 8; i++) {
      calls.due("gauge " + i + " " + i + " " + i + " 9 = " + i);
    }
    calls.due("image = 1", "clear = 20");
    for (int i = 1; i <= 12; i++) {
      calls.due("bid 0 7 1 = " + i);
    }
    for (int i = 1; i <= 8; i++) {
      calls.due("gauge 0 8 39 5 = " + i);
    }
    calls.due("right = false", "sold 0 0 0 = 84");
    for (int x = 0; x < 9; x++) {
      calls.due("set " + x + " " + x + " 99 = 9", "set " + x + " " + (8 - x) + " 0 = " + (x == 4 ? 99 : 9));
    }
    calls.due("restore = 0", "told 8 = 12", "told 9 = 8", "sums -1 0 = 729", "sums 39 0 = 729", "right = true",
        "found 0 = " + (40 * 81 - 2 - 3 - 4 - 5 - 6 - 7 - 8 - 9));
    // 729 yards: the highest first, down to 24 of the 30 that the third wants
    for (int i = 1; i <= 12; i++) {
      int gets = i > 3 ? 10 * i : i == 3 ? 729 - 720 : 0;
      calls.due("gets " + (i - 1) + " 0 0 = " + gets, "gets " + (i - 1) + " 0 1 = " + gets * 2 * i);
    }
    calls.due("image = 1", "clear = 20", "restore = 0", "told 8 = 12");
  }

  private static void imageAndDuel() {
    Calls calls = Calls.at("what is reckoned is reckoned again", "port 3 2;fog 0 0 0 0 9;wind 0 2 1 8;lamp 2 1 1;"
        + "lot 0 0 0 0 0 0;lot 1 0 1 0 0 2;");
    calls.due("fog 1 0 0 = 8", "leaks 0 1 0 = 9", "led 0 39 = 2", "whose 1 0 = 0", "image = 1", "set 0 0 0 = 9",
        "leaks 0 1 0 = 0", "led 0 39 = 0", "whose 1 0 = -1", "calm 0 = 0", "restore = 0", "fog 1 0 0 = 8",
        "leaks 0 1 0 = 9", "net 1 = 18", "led 0 39 = 2", "whose 1 0 = 0", "calm 0 = 3");
  }

  private static void status() {
    Calls calls = Calls.at("no image keeps it, no port ends it", "port 2 2;lot 0 0 0 0 0 0;");
    calls.due("told 10 = bad", "image = 1", "told 10 = bad", "fog 2 0 0 = cell", "led 0 0 = none", "restore = 0",
        "status 0 = 1", "status 1 = 1", "status 2 = 2").port(0, "port 3 3;");
    calls.due("status 0 = 1", "status 1 = 1", "status 2 = 2", "clear = 0", "rule 0 = 0", "status 2 = 2", "net 0 = none",
        "status 1 = 2", "status 3 = -1", "status 2 = 2", "bid 0 0 0 = none", "status 1 = 3", "gets 0 40 0 = bad",
        "status 2 = 3");
    Calls quiet = Calls.at("what is answered by -1 is not refused", "port 2 2;lot 0 0 0 0 0 0;ship 0 0;");
    quiet.due("restore = -1", "gets 5 0 0 = -1", "line 0 0 1 1 0 = 0", "when 0 0 = -1", "found 0 = 160");
    for (int i = 1; i <= 12; i++) {
      quiet.due("bid 0 1 1 = " + i);
    }
    quiet.due("bid 0 1 1 = -1").port(-9, "x").rule(-9, "x");
    quiet.due("status 0 = 0", "status 1 = 0", "status 2 = 0");
  }

  /** The 512th call is as good as the first. */
  private static void manyCalls() {
    Calls calls = Calls.fresh("512 calls");
    for (int i = 1; i <= 508; i++) {
      calls.answer("fog 6 0 0");
    }
    calls.due("status 0 = 508", "status 1 = 0", "set 0 0 9 = 0", "fog 0 0 39 = 9");
  }
}

/** The edges of a RULE: its text, its values that wrap, what is let in, what stands first, what is paid. */
public final class RuleEdgesTest {
  /** The least of 32 bits, and the greatest. */
  private static final String LEAST = "512*512*512*16";
  private static final String MOST = "(512*512*512*16-1)";

  private RuleEdgesTest() {
  }

  public static void main(String[] args) {
    length();
    parts();
    facts();
    values();
    wraps();
    truth();
    relations();
    let();
    standing();
    most();
    pay();
    together();
    long200();
    open();
    faults();
    kept();
    Check.end("RuleEdgesTest");
  }

  /** LOT 1 has 80 yards in STEP 2; four BIDS are on it, of them BID 5 of 13 yards for 21 each. */
  private static Calls room(String title) {
    Calls calls = Calls.at(title, "port 9 9;fog 3 3 3 3 45;fog 4 3 4 3 50;fog 0 0 0 0 30;thin 0 5;thin 2 5;"
        + "lot 0 0 0 0 2 0;lot 3 3 4 3 7 0;");
    return calls.due("yards 1 2 = 65", "set 4 3 65 = 50", "bid 0 7 9 = 1", "bid 1 99 30 = 2", "bid 0 8 9 = 3",
        "bid 0 9 10 = 4", "bid 1 5 25 = 5", "bid 1 13 21 = 6", "bid 1 40 10 = 7", "yards 1 2 = 80");
  }

  private static void gets(Calls calls, String rule, int... gets) {
    calls.rule(rule.length() - rule.replace(";", "").length(), rule);
    int[] bids = {1, 4, 5, 6};
    int together = 0;
    int many = 0;
    for (int i = 0; i < 4; i++) {
      calls.due("ruled " + bids[i] + " 2 0 = " + gets[i]);
      together += gets[i];
      many += gets[i] > 0 ? 1 : 0;
    }
    calls.due("brings 1 2 1 = " + together, "brings 1 2 2 = " + many);
  }

  private static void pays(Calls calls, String rule, int... pays) {
    calls.rule(rule.length() - rule.replace(";", "").length(), rule);
    int[] bids = {1, 4, 5, 6};
    int together = 0;
    for (int i = 0; i < 4; i++) {
      calls.due("ruled " + bids[i] + " 2 1 = " + pays[i]);
      together += pays[i];
    }
    calls.due("brings 1 2 0 = " + together);
  }

  private static void tells(Calls calls, String sum, int due) {
    calls.rule(1, "first " + sum + ";").due("let 5 2 1 = " + due, "let 5 2 0 = 1");
  }

  private static void holds(Calls calls, String choice, int due) {
    calls.rule(1, "allow " + choice + ";").due("let 5 2 0 = " + due, "let 5 2 1 = 21");
  }

  private static void length() {
    Calls calls = room("up to 200 bytes");
    calls.rule(1, " ".repeat(191) + "first 77;").due("fault = -1", "let 5 2 1 = 77");
    calls.rule(-9, " ".repeat(192) + "first 78").due("fault = 200", "let 5 2 1 = 77");
    calls.rule(-9, " ".repeat(199) + "x").due("fault = 199", "let 5 2 1 = 77");
    calls.feed(" ".repeat(201)).due("rule 201 = bad", "let 5 2 1 = 77", "count 1 = 220", "rule 200 = 0", "count 1 = 0",
        "fault = -1", "let 5 2 1 = 21");
    calls.rule(1, "first 5;").feed("first 6;pay 7;").due("rule 8 = 1", "let 5 2 1 = 6", "ruled 5 2 1 = 0");
    calls.rule(0, "").due("let 5 2 1 = 21").rule(0, "   ").due("let 5 2 1 = 21");
    calls.due("rule 1 = bad", "rule -1 = bad", "rule 0 = 0", "fault = -1");
  }

  private static void parts() {
    Calls calls = room("at most 8");
    calls.rule(8, "first 1;".repeat(7) + "first 9;").due("let 5 2 1 = 9");
    calls.rule(-7, "first 1;".repeat(8) + " first 9;").due("fault = 65", "let 5 2 1 = 9");
    calls.rule(8, "allow 1=2;".repeat(7) + "allow 1=1;").due("let 5 2 0 = 1");
    calls.rule(8, "allow 1=2;".repeat(8)).due("let 5 2 0 = 0", "brings 1 2 1 = 0");
    calls.rule(8, "allow 1=1;" + "allow 1=2;".repeat(7)).due("let 5 2 0 = 1");
    calls.rule(4, "first 3;allow 1=2;first 4;allow 2=2;").due("let 5 2 0 = 1", "let 5 2 1 = 4");
    pays(calls, "pay 1;pay 2;most 3;most 4;", 8, 8, 8, 8);
    gets(calls, "most 4;most 3;", 3, 3, 3, 3);
    gets(calls, "most 3;pay 1;most 4;first 0;", 4, 4, 4, 4);
  }

  private static void facts() {
    Calls calls = room("what it can ask for");
    String[] names = {"price", "wants", "lot", "step", "there", "left", "floor", "number", "bids"};
    int[] due = {21, 13, 1, 2, 80, 80, 7, 5, 4};
    for (int i = 0; i < 9; i++) {
      tells(calls, names[i], due[i]);
      holds(calls, names[i] + "=" + due[i], 1);
      // BID 5 stands first by this
      calls.rule(2, "first (number/5)*(5/number);pay " + names[i] + ";").due("ruled 5 2 1 = " + 13 * due[i]);
    }
    calls.rule(1, "first number;").due("let 0 2 1 = 0", "let 6 2 1 = 6").rule(1, "first bids;").due("let 0 2 1 = 3",
        "let 6 2 1 = 4", "clear = 7", "bid 0 1 1 = 1", "let 0 0 1 = 1");
    calls.rule(1, "first step*1+there;").due("let 0 0 1 = 25", "let 0 39 1 = 39", "let 0 1 1 = 21");
    calls.rule(1, "allow left=there and floor=2 and lot=0;").due("let 0 0 0 = 1", "let 0 39 0 = 1");
  }

  private static void values() {
    Calls calls = room("values");
    tells(calls, "0", 0);
    tells(calls, "999", 999);
    tells(calls, "0000000999", 999);
    tells(calls, "7/2", 3);
    tells(calls, "(0-7)/2", -3);
    tells(calls, "7/(0-2)", -3);
    tells(calls, "(0-7)/(0-2)", 3);
    tells(calls, "0/5", 0);
    tells(calls, "5/0", 0);
    tells(calls, "0/0", 0);
    tells(calls, "(0-5)/(1-1)", 0);
    tells(calls, "9/0*3+1", 1);
    tells(calls, "1-2-3", -4);
    tells(calls, "1-(2-3)", 2);
    tells(calls, "100/5/2", 10);
    tells(calls, "100/(5/2)", 50);
    tells(calls, "7*3/2", 10);
    tells(calls, "7/2*3", 9);
    tells(calls, "1+2*3-4/2", 5);
    tells(calls, "(1+2)*(3-4)/2", -1);
    tells(calls, "(((((((1))))))".substring(1), 1);
    tells(calls, "1+(1+(1+(1+(1+(1+(1))))))", 7);
  }

  private static void wraps() {
    Calls calls = room("32 bits that wrap");
    tells(calls, LEAST, Integer.MIN_VALUE);
    tells(calls, MOST, Integer.MAX_VALUE);
    tells(calls, MOST + "+1", Integer.MIN_VALUE);
    tells(calls, LEAST + "-1", Integer.MAX_VALUE);
    tells(calls, LEAST + "*2", 0);
    tells(calls, LEAST + "/(0-1)", Integer.MIN_VALUE);
    tells(calls, "0-" + LEAST, Integer.MIN_VALUE);
    tells(calls, MOST + "*" + MOST, 1);
    tells(calls, MOST + "/" + MOST, 1);
    tells(calls, "999*999*999*999", (int) (999L * 999 * 999 * 999));
    holds(calls, LEAST + "<0", 1);
    holds(calls, LEAST + "-1>0", 1);
    holds(calls, MOST + ">" + LEAST, 1);
    holds(calls, LEAST + "<" + MOST, 1);
    holds(calls, LEAST + "=0-" + LEAST, 1);
  }

  private static void truth() {
    Calls calls = room("and, or, not");
    String[] sides = {"1=2", "1=1"};
    for (int a = 0; a < 2; a++) {
      holds(calls, sides[a], a);
      holds(calls, "not " + sides[a], 1 - a);
      holds(calls, "not not " + sides[a], a);
      holds(calls, "[" + sides[a] + "]", a);
      for (int b = 0; b < 2; b++) {
        String both = sides[a] + " and " + sides[b];
        String one = sides[a] + " or " + sides[b];
        holds(calls, both, a & b);
        holds(calls, one, a | b);
        holds(calls, "not " + both, 1 - a & b);
        holds(calls, "not " + one, 1 - a | b);
        holds(calls, "not [" + both + "]", 1 - (a & b));
        holds(calls, "not [" + one + "]", 1 - (a | b));
        holds(calls, sides[a] + " and not " + sides[b], a & 1 - b);
        holds(calls, sides[a] + " or not " + sides[b], a | 1 - b);
        for (int c = 0; c < 2; c++) {
          holds(calls, both + " or " + sides[c], a & b | c);
          holds(calls, one + " and " + sides[c], a | b & c);
          holds(calls, "[" + one + "] and " + sides[c], (a | b) & c);
          holds(calls, both + " and " + sides[c], a & b & c);
          holds(calls, one + " or " + sides[c], a | b | c);
        }
      }
    }
  }

  private static void relations() {
    Calls calls = room("<, > and =");
    int[] numbers = {20, 21, 22};
    for (int n : numbers) {
      holds(calls, "price<" + n, 21 < n ? 1 : 0);
      holds(calls, "price>" + n, 21 > n ? 1 : 0);
      holds(calls, "price=" + n, 21 == n ? 1 : 0);
      holds(calls, n + "<price and 1=1", n < 21 ? 1 : 0);
      holds(calls, n + ">price and 1=1", n > 21 ? 1 : 0);
      holds(calls, n + "=price and 1=1", n == 21 ? 1 : 0);
    }
    holds(calls, "price*2>wants+left-there", 1);
    holds(calls, "(price-1)*2=(40)", 1);
  }

  private static void let() {
    Calls calls = room("let in");
    calls.rule(1, "allow wants>12;").due("let 1 2 0 = 1", "let 4 2 0 = 0", "let 5 2 0 = 1", "let 0 2 0 = 0",
        "let 4 2 1 = 25", "ruled 4 2 0 = 0", "ruled 4 2 1 = 0");
    gets(calls, "allow price=25;", 0, 5, 0, 0);
    gets(calls, "allow price=25;allow price=10;", 0, 5, 0, 40);
    gets(calls, "allow 1=2;", 0, 0, 0, 0);
    gets(calls, "", 80, 0, 0, 0);
    gets(calls, "allow left<there;", 0, 0, 0, 0);
    gets(calls, "allow left=80 and wants<99;", 0, 5, 13, 40);
    calls.rule(1, "allow step=39;").due("let 1 38 0 = 0", "let 1 39 0 = 1", "let 0 39 0 = 1", "ruled 0 39 0 = 0");
    calls.rule(1, "allow floor>price;").due("let 1 2 0 = 0", "set 0 0 99 = 30", "ruled 0 2 0 = 0");
    calls.rule(0, "").due("let 1 2 0 = 1", "let 7 2 0 = none", "let -1 2 0 = none");
  }

  private static void standing() {
    Calls calls = room("the greatest first, of alike ones the first told");
    gets(calls, "first 0-price;", 22, 5, 13, 40);
    gets(calls, "first 0;most 30;", 30, 5, 13, 30);
    gets(calls, "first 7;most 50;", 50, 5, 13, 12);
    gets(calls, "first number;", 22, 5, 13, 40);
    gets(calls, "first 0-wants;", 22, 5, 13, 40);
    gets(calls, "first left-there;most 40;", 40, 5, 13, 22);
    // those numbered below 5 have the least value, the others one less, which wraps to the greatest
    gets(calls, "first " + LEAST + "-number/5;", 27, 0, 13, 40);
    gets(calls, "first " + MOST + "+number/5;most 60;", 60, 5, 13, 2);
    gets(calls, "most 30;", 30, 5, 13, 30);
    Calls alike = room("alike prices");
    alike.due("clear = 7", "bid 1 30 4 = 1", "bid 1 70 5 = 2", "bid 1 70 5 = 3", "ruled 1 2 0 = 70", "ruled 2 2 0 = 10",
        "ruled 0 2 0 = 0");
  }

  private static void most() {
    Calls calls = room("no more than that");
    gets(calls, "most left/2;", 40, 5, 13, 11);
    gets(calls, "most left-there+3;", 3, 0, 0, 0);
    gets(calls, "most there-left+2;", 2, 4, 8, 16);
    gets(calls, "most 0;", 0, 0, 0, 0);
    gets(calls, "most 0-1;", 0, 0, 0, 0);
    gets(calls, "most " + LEAST + ";", 0, 0, 0, 0);
    gets(calls, "most " + MOST + ";", 80, 0, 0, 0);
    gets(calls, "most 1;", 1, 1, 1, 1);
    gets(calls, "most wants/9;", 11, 0, 1, 4);
    gets(calls, "most 79;", 79, 1, 0, 0);
    gets(calls, "most 80;", 80, 0, 0, 0);
    gets(calls, "most 22;", 22, 5, 13, 22);
  }

  private static void pay() {
    Calls calls = room("for each yard");
    pays(calls, "most left/2;", 40 * 30, 5 * 25, 13 * 21, 11 * 10);
    pays(calls, "most left/2;pay left;", 40 * 80, 5 * 40, 13 * 35, 11 * 22);
    pays(calls, "most left/2;pay there-left;", 0, 5 * 40, 13 * 45, 11 * 58);
    pays(calls, "most left/2;pay 0;", 0, 0, 0, 0);
    pays(calls, "most left/2;pay 0-1;", 0, 0, 0, 0);
    pays(calls, "most left/2;pay " + LEAST + ";", 0, 0, 0, 0);
    pays(calls, "most left/2;pay price-22;", 40 * 8, 5 * 3, 0, 0);
    pays(calls, "pay 999;", 80 * 999, 0, 0, 0);
    pays(calls, "most left/2;pay floor;", 280, 35, 91, 77);
    pays(calls, "most left/2;pay number*bids;", 40 * 4, 5 * 16, 13 * 20, 11 * 24);
    Calls own = room("its own price").rule(1, "most 1;");
    own.due("ruled 1 2 1 = 30", "ruled 4 2 1 = 25", "ruled 0 2 1 = 9", "ruled 3 2 1 = 10", "brings 0 2 0 = 28");
  }

  /** What a BID pays, and what a LOT brings, wraps. */
  private static void together() {
    Calls calls = room("together it wraps, too");
    int half = 1 << 30;
    calls.rule(2, "most 1;pay 512*512*512*8;").due("ruled 1 2 1 = " + half, "ruled 6 2 1 = " + half,
        "brings 1 2 0 = 0", "brings 0 2 0 = " + 3 * half, "brings 1 2 2 = 4");
    calls.rule(2, "most 4;pay 512*512*512*8;").due("ruled 1 2 0 = 4", "ruled 1 2 1 = 0", "brings 1 2 0 = 0");
    calls.rule(2, "most 3;pay 512*512*512*8;").due("ruled 1 2 1 = " + 3 * half, "brings 1 2 0 = " + 12 * half);
    calls.rule(2, "most 2;pay " + MOST + ";").due("ruled 1 2 1 = -2", "brings 1 2 0 = -8", "brings 1 2 1 = 8");
  }

  /** As many orders as 200 bytes can tell, one RULE behind another. */
  private static void long200() {
    Calls calls = room("long rules");
    for (int i = 0; i < 5; i++) {
      tells(calls, "1" + "+1".repeat(96), 97);
      tells(calls, "9" + "-1".repeat(96), -87);
      tells(calls, "1" + "*1".repeat(96), 1);
      holds(calls, "1=2" + "or1=2".repeat(37), 0);
      holds(calls, "1=2" + "or1=2".repeat(36) + "or1=1", 1);
      holds(calls, "1=1" + "and1=1".repeat(31), 1);
      holds(calls, "1=1" + "and1=1".repeat(30) + "and1=2", 0);
      holds(calls, "1=2 and 1=2" + " and 1=1".repeat(22), 0);
      calls.rule(8, "first 1+1+1+1+1+1+1+1+1;".repeat(7) + "first 1+1+1+1+1+1+1+2+1;").due("let 5 2 1 = 10");
    }
  }

  private static void open() {
    Calls calls = room("six that are open");
    tells(calls, "((((((price))))))", 21);
    holds(calls, "[[[[[[price=21]]]]]]", 1);
    holds(calls, "not not not not not not price=21", 1);
    holds(calls, "not not not not not price=21", 0);
    holds(calls, "not [not [not (price)=21]]", 0);
    holds(calls, "[[[[[[1=2]]]]]] or [[[[[[1=1]]]]]]", 1);
    holds(calls, "not not not not not not 1=2 or not not not not not not 1=1", 1);
    holds(calls, "((((((1))))))=((((((1))))))", 1);
    tells(calls, "(1)+(1)+(1)+(1)+(1)+(1)+(1)+(1)", 8);
    calls.rule(-7, "first (((((((1)))))));").due("fault = 12");
    calls.rule(-7, "first 1+((((((1+ (1)))))));").due("fault = 17");
    calls.rule(-7, "allow [[[[[[[1=1]]]]]]];").due("fault = 12");
    calls.rule(-7, "allow [[[[[[(1)=1]]]]]];").due("fault = 12");
    calls.rule(-7, "allow [[[[[[1=(1)]]]]]];").due("fault = 14");
    calls.rule(-7, "allow [[[[[[not 1=1]]]]]];").due("fault = 12");
    calls.rule(-7, "allow not not not not not not not 1=1;").due("fault = 30");
    calls.rule(-7, "allow not not not not not not [1=1];").due("fault = 30");
    calls.rule(-7, "allow not not not not not not 1=(1);").due("fault = 32");
    calls.rule(-7, "allow not not not not not not 1=1 and not not not not not not not 1=1;").due("fault = 62");
  }

  private static void faults() {
    Calls calls = room("the rule stays").rule(1, "first 55;");
    String[] strange = {"pay 1+", "pay 1", "pay", "pay 1 2;", "pays 1;", "pay 1;;", "allow 1;", "allow 1=1=1;", "pay [1];",
        "pay 1=1;", "allow (1=1);", "pay -1;", "allow not;", "pay prices;", "pay 1;first 2;x", "pay (1;", "allow [1=1;",
        "pay 1);", "allow 1==1;", "allow 1<>1;", "allow 1=1 or;", "allow or 1=1;", "pay and;", "pay not;", "PAY 1;",
        "pay 1\t;", "pay 1;\0", "pay p rice;", "pay 1 000;", "allow 1=1 not 1=1;", "allow 1=1,1=1;"};
    int[] places = {6, 5, 3, 6, 0, 6, 7, 9, 4, 5, 8, 4, 9, 4, 14, 6, 10, 5, 8, 8, 12, 6, 4, 4, 0, 5, 6, 4, 6, 10, 9};
    for (int i = 0; i < strange.length; i++) {
      calls.rule(-9, strange[i]).due("fault = " + places[i], "let 5 2 1 = 55", "count 1 = 0");
    }
    calls.rule(-8, "pay 1000;").due("fault = 4", "let 5 2 1 = 55").rule(-8, "allow 1<4294967297;").due("fault = 8");
    calls.rule(-8, "pay 1000x").due("fault = 4").rule(-7, "pay 1;".repeat(8) + "pay 1000").due("fault = 48");
    calls.rule(-9, "pay 1;".repeat(8) + "1").due("fault = 48").due("let 5 2 1 = 55").rule(0, "").due("let 5 2 1 = 21");
  }

  private static void kept() {
    Calls calls = room("how long a rule stands").rule(1, "first 55;");
    calls.due("image = 1", "clear = 7", "bid 1 1 1 = 1", "let 0 0 1 = 55", "set 3 3 1 = 45", "let 0 0 1 = 55",
        "restore = 0", "let 0 0 1 = 55", "rule 9 = bad", "let 0 0 1 = 55");
    calls.port(-9, "x").due("let 0 0 1 = 55", "told 8 = 7").port(1, "lot 0 0 0 0 0 0;").due("bid 0 1 3 = 1",
        "let 0 0 1 = 3");
  }
}

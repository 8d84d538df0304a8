/** The texts of ports and of rules: what may stand where, and which fault is told at which place. */
public final class TextTest {
  private static final int STRANGE = -9;
  private static final int NO_SUCH = -8;
  private static final int TOO_MANY = -7;
  private static final int TOO_LATE = -6;

  private TextTest() {
  }

  public static void main(String[] args) {
    rightPorts();
    strangePorts();
    numbers();
    moves();
    overlaps();
    tooMany();
    tooLate();
    theFirstFault();
    rightRules();
    wrongRules();
    openParts();
    Check.end("TextTest");
  }

  /** A fault is told where "^" stands in the text, which is no part of it. */
  private static void port(int due, String marked) {
    HarbourFog fog = new HarbourFog();
    String text = marked.replace("^", "");
    Check.is("port of " + marked, due, () -> Check.port(fog, text));
    Check.is("place in " + marked, marked.indexOf('^'), fog::fault);
  }

  private static void rule(int due, String marked) {
    HarbourFog fog = new HarbourFog();
    String text = marked.replace("^", "");
    Check.is("rule of " + marked, due, () -> Check.rule(fog, text));
    Check.is("place in " + marked, marked.indexOf('^'), fog::fault);
  }

  private static void rightPorts() {
    port(0, "");
    port(0, "    ");
    port(0, "port 2 2;");
    port(0, "port 9 9;");
    port(0, "port9 9;");
    port(0, "  port  9  9  ;  sight  5  ;  ");
    port(0, "sight 1;sight 99;sight 007;");
    port(0, "port 0000000000000000000000000002 2;");
    port(0, "fog 0 0 5 4 99;fog 5 4 5 4 1;");
    port(0, "wind 39 2 2 8;wind 0 0 0 0;");
    port(0, "thin 39 9;thin 0 0;");
    port(0, "lamp 5 4 20;lamp 0 0 1;");
    port(0, "steamer 39 5 4;");
    port(1, "lot 0 0 5 4 9 9;");
    port(2, "lot 0 0 5 3 0 0;lot 0 4 5 4 0 0;");
    port(0, "walk 0 0 0 ssssneeeeewo;");
    port(0, "walk 0 0 0s;");
    port(0, "walk 5 4 39 nnnnwwwwwsss;");
    port(0, "watch 5 4;watch 5 4;");
    port(0, "ship 5 99;ship 0 0;");
    HarbourFog f = Check.at("port 3 2;lot 0 0 1 0 1 2;lot 2 0 2 1 3 4;");
    Check.is("lots of a block", 2, () -> f.lot(0, 2));
  }

  private static void strangePorts() {
    port(STRANGE, "^;");
    port(STRANGE, "port 3 3;^;");
    port(STRANGE, "^ports 3 3;");
    port(STRANGE, "^por 3 3;");
    port(STRANGE, "^portz 3 3;");
    port(STRANGE, "^porta 3 3;");
    port(STRANGE, "port^{3 3;");
    port(STRANGE, "port^`3 3;");
    port(STRANGE, "port 3^:3;");
    port(STRANGE, "port 3^/3;");
    port(STRANGE, "^Port 3 3;");
    port(STRANGE, "^5;");
    port(STRANGE, "port ^x 3;");
    port(STRANGE, "port 3^,3;");
    port(STRANGE, "port 3 ^-3;");
    port(STRANGE, "port 3 3 ^3;");
    port(STRANGE, "port 3 3 ^sight 5;");
    port(STRANGE, "port 3^;");
    port(STRANGE, "sight 5^");
    port(STRANGE, "sight 5   ^");
    port(STRANGE, "sight^");
    port(STRANGE, "^s");
    port(STRANGE, "sight 5;sight   ^");
    port(STRANGE, "sight 5;^si");
    port(STRANGE, "fog 0 0 1 1^;");
    port(STRANGE, "walk 0 0 0 ^;");
    port(STRANGE, "walk 0 0 0 ^N;");
    port(STRANGE, "walk 0 0 0 ^");
    port(STRANGE, "walk 0 0 0 s^1;");
    port(STRANGE, "walk 0 0 0 s ^s;");
    port(STRANGE, "sight 5;^\t");
    port(STRANGE, "sight 5;^\0");
    port(STRANGE, "^" + (char) 233);
    port(STRANGE, "sight 5" + "^" + (char) 160 + ";");
  }

  private static void numbers() {
    port(NO_SUCH, "port ^1 2;");
    port(NO_SUCH, "port 2 ^1;");
    port(NO_SUCH, "port ^10 2;");
    port(NO_SUCH, "port 2 ^10;");
    port(NO_SUCH, "port ^99999999999999999999999999999 2;");
    port(NO_SUCH, "port ^4294967298 2;");
    port(NO_SUCH, "fog ^6 0 0 0 1;");
    port(NO_SUCH, "fog 0 ^5 0 0 1;");
    port(NO_SUCH, "fog 0 0 ^6 0 1;");
    port(NO_SUCH, "fog 0 0 0 ^5 1;");
    port(NO_SUCH, "fog 3 0 ^2 0 1;");
    port(NO_SUCH, "fog 0 3 0 ^2 1;");
    port(NO_SUCH, "fog 0 0 0 0 ^0;");
    port(NO_SUCH, "fog 0 0 0 0 ^100;");
    port(NO_SUCH, "port 3 3;fog 0 0 ^3 0 1;");
    port(NO_SUCH, "wind ^40 0 0 0;");
    port(NO_SUCH, "wind 0 ^3 0 0;");
    port(NO_SUCH, "wind 0 0 ^3 0;");
    port(NO_SUCH, "wind 0 0 0 ^9;");
    port(NO_SUCH, "thin ^40 0;");
    port(NO_SUCH, "thin 0 ^10;");
    port(NO_SUCH, "lamp ^6 0 1;");
    port(NO_SUCH, "lamp 0 ^5 1;");
    port(NO_SUCH, "lamp 0 0 ^0;");
    port(NO_SUCH, "lamp 0 0 ^21;");
    port(NO_SUCH, "steamer ^40 0 0;");
    port(NO_SUCH, "steamer 0 ^6 0;");
    port(NO_SUCH, "steamer 0 0 ^5;");
    port(NO_SUCH, "lot ^6 0 0 0 0 0;");
    port(NO_SUCH, "lot 1 0 ^0 0 0 0;");
    port(NO_SUCH, "lot 0 1 0 ^0 0 0;");
    port(NO_SUCH, "lot 0 0 0 0 ^10 0;");
    port(NO_SUCH, "lot 0 0 0 0 0 ^10;");
    port(NO_SUCH, "walk ^6 0 0 o;");
    port(NO_SUCH, "walk 0 ^5 0 o;");
    port(NO_SUCH, "walk 0 0 ^40 o;");
    port(NO_SUCH, "watch ^6 0;");
    port(NO_SUCH, "watch 0 ^5;");
    port(NO_SUCH, "sight ^0;");
    port(NO_SUCH, "sight ^100;");
    port(NO_SUCH, "ship ^6 0;");
    port(NO_SUCH, "ship 0 ^100;");
  }

  private static void moves() {
    port(0, "walk 0 0 0 oooooooooooo;");
    port(NO_SUCH, "walk 0 0 0 ^ooooooooooooo;");
    port(NO_SUCH, "walk 0 0 0   ^x;");
    port(NO_SUCH, "walk 0 0 0 ^ooox;");
    port(NO_SUCH, "walk 0 0 0 ^n;");
    port(NO_SUCH, "walk 0 0 0 ^oow;");
    port(NO_SUCH, "walk 5 0 0 ^e;");
    port(NO_SUCH, "walk 0 4 0 ^s;");
    port(NO_SUCH, "walk 0 0 0 ^wes;");
    // a move that would be done behind STEP 39 is a move all the same
    port(NO_SUCH, "walk 0 0 39 ^n;");
    port(NO_SUCH, "walk 0 0 38 ^sonn;");
  }

  private static void overlaps() {
    port(NO_SUCH, "lot 0 0 2 2 1 1;lot 2 2 3 ^3 1 1;");
    port(NO_SUCH, "lot 1 1 1 1 1 1;lot 0 0 2 ^2 1 1;");
    port(NO_SUCH, "lot 0 0 2 2 1 1;lot 1 1 1 ^1 1 1;");
    // the overlap stands ahead of what is wrong behind it
    port(NO_SUCH, "lot 0 0 2 2 1 1;lot 1 1 1 ^1 99 x");
    port(2, "lot 0 0 2 2 1 1;lot 3 3 3 3 1 1;");
  }

  private static void tooMany() {
    String[] clauses = {"wind 0 0 0 0;", "thin 0 0;", "lamp 0 0 1;", "steamer 0 0 0;", "walk 0 0 0 o;",
        "watch 0 0;", "ship 0 0;"};
    int[] most = {12, 12, 6, 6, 4, 4, 4};
    for (int i = 0; i < clauses.length; i++) {
      port(0, clauses[i].repeat(most[i]));
      port(TOO_MANY, clauses[i].repeat(most[i]) + "^" + clauses[i]);
      port(TOO_MANY, clauses[i].repeat(most[i]) + "  ^" + clauses[i].replace(" ", " x"));
    }
    StringBuilder lots = new StringBuilder();
    for (int x = 0; x < 6; x++) {
      lots.append("lot ").append(x).append(" 0 ").append(x).append(" 0 0 0;");
    }
    port(6, lots.toString());
    port(TOO_MANY, lots + "^lot 0 1 0 1 0 0;");
    port(0, "sight 1;".repeat(60));
    port(TOO_MANY, "sight 1;".repeat(60) + "^sight 1;");
    port(TOO_MANY, "sight 1;".repeat(60) + "^port 3 3;");
    port(STRANGE, "sight 1;".repeat(60) + "^sights 1;");
    port(STRANGE, "sight 1;".repeat(60) + "^;");
    port(0, "sight 1;".repeat(60) + "    ");
    port(0, "fog 0 0 0 0 9;".repeat(42));
  }

  private static void tooLate() {
    port(TOO_LATE, "sight 5;^port 3 3;");
    port(TOO_LATE, "port 3 3;^port 3 3;");
    port(TOO_LATE, "port 3 3;  ^port x");
    port(STRANGE, "port 3 3;^portx 3 3;");
  }

  private static void theFirstFault() {
    port(NO_SUCH, "sight ^0;x");
    port(NO_SUCH, "sight ^0 0 0");
    port(NO_SUCH, "sight ^0");
    port(STRANGE, "sight 5 ^0;sight 0;");
    port(TOO_MANY, "watch 0 0;watch 0 0;watch 0 0;watch 0 0;^watch 9 9;");
    HarbourFog f = Check.at("port 3 3;fog 1 1 1 1 5;lot 0 0 0 0 7 7;");
    Check.is("a fault", NO_SUCH, () -> Check.port(f, "port 9 9;fog 1 1 1 1 50;lot 0 0 8 8 1 1;sight 0;"));
    Check.is("nothing of it is told: across", 3, () -> f.told(0));
    Check.is("nothing of it is told: fog", 5, () -> f.fog(1, 1, 0));
    Check.is("nothing of it is told: lots", 7, () -> f.lot(0, 0));
  }

  private static void rightRules() {
    rule(0, "");
    rule(0, "   ");
    rule(1, "pay 0;");
    rule(1, "  pay  999 ; ");
    rule(1, "pay999;");
    rule(4, "allow 1=1;first 1;pay 1;most 1;");
    rule(8, "pay 1;".repeat(8));
    rule(1, "allow price<1or wants>2and not lot=3;");
    rule(1, "allow [price<1]or[wants>2];");
    rule(1, "first (1+2)*(3-4)/5;");
    rule(1, "allow (price)=(wants);");
    rule(1, "allow [(price)=(wants)];");
  }

  private static void wrongRules() {
    rule(STRANGE, "^;");
    rule(STRANGE, "^lets 1;");
    rule(STRANGE, "^5;");
    rule(STRANGE, "pay ^;");
    rule(STRANGE, "pay^");
    rule(STRANGE, "pay 1^");
    rule(STRANGE, "pay 1  ^");
    rule(STRANGE, "pay 1 ^2;");
    rule(STRANGE, "pay 1+^;");
    rule(STRANGE, "pay 1+^+2;");
    rule(STRANGE, "pay ^-1;");
    rule(STRANGE, "pay 1*^/2;");
    rule(STRANGE, "pay ^prices;");
    rule(STRANGE, "pay ^pric;");
    rule(STRANGE, "pay ^not 1;");
    rule(STRANGE, "pay ^and;");
    rule(STRANGE, "pay ^[1];");
    rule(STRANGE, "pay (1^;");
    rule(STRANGE, "pay (1^];");
    rule(STRANGE, "pay (^);");
    rule(STRANGE, "pay 1^);");
    rule(STRANGE, "pay 1 ^= 1;");
    rule(STRANGE, "pay 1 ^and 1;");
    rule(STRANGE, "allow 1^;");
    rule(STRANGE, "allow 1=^;");
    rule(STRANGE, "allow 1=1 ^=1;");
    rule(STRANGE, "allow 1<^>1;");
    rule(STRANGE, "allow 1=1 and^;");
    rule(STRANGE, "allow 1=1 ^andor 1=1;");
    rule(STRANGE, "allow 1=1 or ^or 1=1;");
    rule(STRANGE, "allow not^;");
    rule(STRANGE, "allow ^nots 1=1;");
    rule(STRANGE, "allow [1=1^;");
    rule(STRANGE, "allow [1=1^);");
    rule(STRANGE, "allow [1^];");
    rule(STRANGE, "allow (^[1=1]);");
    rule(STRANGE, "allow (1^=1);");
    rule(STRANGE, "allow [price^] = 1;");
    rule(STRANGE, "pay 1;^x");
    rule(NO_SUCH, "pay ^1000;");
    rule(NO_SUCH, "pay 1+^99999999999999999999;");
    rule(NO_SUCH, "allow 1=^1000 x");
    rule(TOO_MANY, "pay 1;".repeat(8) + "^pay 1;");
    rule(TOO_MANY, "pay 1;".repeat(8) + "  ^allow x");
    rule(STRANGE, "pay 1;".repeat(8) + "^pays 1;");
    rule(STRANGE, "pay 1;".repeat(8) + "^;");
  }

  private static void openParts() {
    rule(1, "pay ((((((1))))));");
    rule(TOO_MANY, "pay ((((((^(1)))))));");
    rule(1, "allow [[[[[[1=1]]]]]];");
    rule(TOO_MANY, "allow [[[[[[^[1=1]]]]]]];");
    rule(1, "allow not not not not not not 1=1;");
    rule(TOO_MANY, "allow not not not not not not ^not 1=1;");
    rule(1, "allow not [not [not (1) = 1]];");
    rule(TOO_MANY, "allow not [not [not (^(1)) = 1]];");
    rule(TOO_MANY, "allow [[[[[not ^[1=1]]]]]];");
    rule(TOO_MANY, "allow [[[[[not ^not 1=1]]]]];");
    // those that are closed are not open: seven and more behind one another
    rule(1, "pay (1)+(1)+(1)+(1)+(1)+(1)+(1)+(1);");
    rule(1, "allow not 1=1 and not 1=1 and not 1=1 and not 1=1 and not 1=1 and not 1=1 and not 1=1;");
    rule(1, "allow not not not [1=1] or [[[[[[1=1]]]]]];");
    rule(1, "allow not ((((1)))) = (((((1)))));");
    // what can't stand there is no seventh that is open
    rule(STRANGE, "pay ((((((1 ^(");
    rule(STRANGE, "pay ((((((^[1");
    rule(STRANGE, "allow [[[[[[1=1^(");
  }
}

import java.util.Random;

/** Texts of ports and of rules, most of them right, some with a fault somewhere; a seed tells which. */
final class Texts {
  private final Random random;
  /** How many cells the latest port has. */
  int wide = 6;
  int high = 5;
  private StringBuilder out = new StringBuilder();

  Texts(long seed) {
    random = new Random(seed);
  }

  int below(int n) {
    return random.nextInt(n);
  }

  int any() {
    return random.nextInt();
  }

  private void word(String word) {
    blanks(false);
    out.append(word);
  }

  private void sign(char sign) {
    if (below(8) == 0) {
      out.append(' ');
    }
    out.append(sign);
  }

  private void blanks(boolean needed) {
    for (int i = needed ? 1 : 0; i > 0 || below(12) == 0; i--) {
      out.append(' ');
    }
  }

  /** A number from one to another; at times (of a text with faults) one beside. */
  private int number(int least, int most) {
    char last = out.length() == 0 ? ' ' : out.charAt(out.length() - 1);
    blanks(last >= '0' && last <= '9' || below(8) > 0);
    int number = least + below(Math.max(1, most - least + 1));
    if (below(400) == 0) {
      number = below(2) == 0 ? most + 1 : Math.max(0, least - 1);
    }
    if (below(30) == 0) {
      out.append('0');
    }
    out.append(number);
    return number;
  }

  String port() {
    out = new StringBuilder();
    wide = 6;
    high = 5;
    boolean faulty = below(4) == 0;
    if (below(5) > 0) {
      word("port");
      wide = Math.max(2, Math.min(9, number(2, below(2) == 0 ? 4 : 9)));
      high = Math.max(2, Math.min(9, number(2, below(2) == 0 ? 4 : 9)));
      sign(';');
    }
    int clauses = 4 + below(below(3) == 0 ? 70 : 20);
    int[] many = new int[10];
    int[] most = {60, 12, 12, 6, 6, 6, 4, 4, 60, 4};
    for (int i = 0; i < clauses && out.length() < 570; i++) {
      int kind = below(10);
      if (kind == 8 && below(3) > 0) {
        kind = 0;
      } else if (kind == 4 && below(2) == 0) {
        kind = 5 + below(2);
      }
      many[kind]++;
      if (many[kind] <= most[kind] || faulty && below(3) == 0) {
        clause(kind);
        sign(';');
      }
    }
    blanks(false);
    return faulty ? spoilt() : cut(600);
  }

  private String cut(int most) {
    if (out.length() > most) {
      out.setLength(most);
    }
    return out.toString();
  }

  private void clause(int kind) {
    String[] words = {"fog", "wind", "thin", "lamp", "steamer", "lot", "walk", "watch", "sight", "ship"};
    word(words[kind]);
    switch (kind) {
      case 0: block(); number(1, below(2) == 0 ? 99 : 30); break;
      case 1: number(0, below(2) == 0 ? 5 : 39); number(0, 2); number(0, 2); number(0, 8); break;
      case 2: number(0, below(2) == 0 ? 5 : 39); number(0, below(2) == 0 ? 2 : 9); break;
      case 3: spot(); number(1, below(2) == 0 ? 3 : 20); break;
      case 4: number(0, below(2) == 0 ? 5 : 39); spot(); break;
      case 5: lot(); break;
      case 6: walk(); break;
      case 7: spot(); break;
      case 8: number(1, 99); break;
      default: number(0, wide - 1); number(0, below(2) == 0 ? 9 : 99); break;
    }
  }

  private void spot() {
    number(0, wide - 1);
    number(0, high - 1);
  }

  private void block() {
    int x = number(0, wide - 1);
    int y = number(0, high - 1);
    number(x, wide - 1);
    number(y, high - 1);
  }

  private void lot() {
    int x = number(0, wide - 1);
    int y = number(0, high - 1);
    // small ones, as two that overlap are a fault
    number(x, Math.min(wide - 1, x + below(2)));
    number(y, Math.min(high - 1, y + below(2)));
    number(0, 9);
    number(0, 9);
  }

  private void walk() {
    int x = number(0, wide - 1);
    int y = number(0, high - 1);
    number(0, below(2) == 0 ? 5 : 39);
    blanks(below(8) > 0);
    int moves = 1 + below(12);
    for (int i = 0; i < moves; i++) {
      char move = "nsweo".charAt(below(5));
      int a = x + (move == 'e' ? 1 : move == 'w' ? -1 : 0);
      int b = y + (move == 's' ? 1 : move == 'n' ? -1 : 0);
      if (a < 0 || b < 0 || a >= wide || b >= high) {
        move = below(100) == 0 ? move : 'o';
      } else {
        x = a;
        y = b;
      }
      out.append(move);
    }
  }

  /** A sign put in, taken away or changed, or the end cut off. */
  private String spoilt() {
    for (int i = below(3); i >= 0 && out.length() > 1; i--) {
      int at = below(out.length());
      char sign = "0123456789 ;abcnorst([])+*<=-/A".charAt(below(31));
      switch (below(5)) {
        case 0: out.insert(at, sign); break;
        case 1: out.deleteCharAt(at); break;
        case 2: out.setCharAt(at, sign); break;
        case 3: out.setLength(below(3) == 0 ? at : out.length() - 1); break;
        default: out.insert(at, "port 3 3;".substring(0, below(2) == 0 ? 9 : 4)); break;
      }
    }
    return cut(600);
  }

  String rule() {
    out = new StringBuilder();
    int parts = 1 + below(below(6) == 0 ? 9 : 5);
    String[] words = {"allow", "first", "pay", "most"};
    for (int i = 0; i < parts; i++) {
      int kind = below(4);
      int from = out.length();
      word(words[kind]);
      if (kind == 0) {
        choice(below(3));
      } else {
        sum(below(4));
      }
      sign(';');
      if (out.length() > 195) {
        out.setLength(from);
      }
    }
    blanks(false);
    if (below(12) == 0) {
      nest();
    }
    return below(5) == 0 ? spoilt() : cut(200);
  }

  /** A part with about as many open at one time as may be. */
  private void nest() {
    out.append("allow ");
    StringBuilder behind = new StringBuilder();
    int open = 4 + below(4);
    boolean inSum = false;
    for (int i = 0; i < open; i++) {
      if (inSum || below(4) == 0) {
        inSum = true;
        out.append('(');
        behind.insert(0, ')');
      } else if (below(2) == 0) {
        out.append("not ");
      } else {
        out.append('[');
        behind.insert(0, "]");
      }
    }
    out.append("price");
    if (!inSum) {
      out.append("<9");
    } else {
      int brackets = 0;
      while (brackets < behind.length() && behind.charAt(brackets) == ')') {
        brackets++;
      }
      behind.insert(brackets, "<9");
    }
    out.append(behind).append(';');
  }

  private void choice(int depth) {
    both(depth);
    while (below(4) == 0) {
      word(" or ");
      both(depth);
    }
  }

  private void both(int depth) {
    test(depth);
    while (below(4) == 0) {
      word(" and ");
      test(depth);
    }
  }

  private void test(int depth) {
    int kind = depth > 0 ? below(4) : 3;
    if (kind == 0) {
      word(" not");
      test(depth - 1);
    } else if (kind == 1) {
      sign('[');
      choice(depth - 1);
      sign(']');
    } else {
      sum(depth);
      sign("<>=".charAt(below(3)));
      sum(depth);
    }
  }

  private void sum(int depth) {
    product(depth);
    while (below(4) == 0) {
      sign(below(2) == 0 ? '+' : '-');
      product(depth);
    }
  }

  private void product(int depth) {
    unit(depth);
    while (below(4) == 0) {
      sign(below(2) == 0 ? '*' : '/');
      unit(depth);
    }
  }

  private void unit(int depth) {
    String[] words = {"price", "wants", "lot", "step", "there", "left", "floor", "number", "bids"};
    int kind = depth > 0 ? below(6) : 1 + below(5);
    if (kind == 0) {
      sign('(');
      sum(depth - 1);
      sign(')');
    } else if (kind < 4) {
      out.append(' ');
      word(words[below(9)]);
    } else {
      number(0, below(3) == 0 ? 999 : 20);
    }
  }
}

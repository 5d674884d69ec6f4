import java.util.function.Supplier;

/** Of RULES as they are read and come in force: promises 27 to 31, and what the terms say of them. */
final class EdgesOfRules extends Edges {
  private static final int LEAST = Integer.MIN_VALUE;
  private static final int GREATEST = Integer.MAX_VALUE;
  private static final String RIGHT = "k:n<1;j:x";

  /**
   * SHELF 0 holds a right text, 1 an ASK, 2 NOTHING, 3 a text with a FAULT at 8, which rule() has
   * read already. RULE 0 is for LEVEL 1 from DAY 5 on and STRUCK on DAY 7, RULE 1 for LEVEL 2 from 0.
   */
  private static final Supplier<Books> RULED = Books.country(x -> {
    x.days(7);
    x.text(0, RIGHT);
    x.rule(1, 5, 0);
    x.rule(2, 0, 0);
    x.strike(0);
    x.writes(4, 0, 0, 0);
    x.show(1, 0);
    x.text(3, "k:n<1;j:y");
    x.rule(1, 0, 3);
  });

  /** 12 RULES, all of LEVEL 1; SHELVES as in RULED; the latest text had no FAULT. */
  static final Supplier<Books> FULL = () -> {
    Books x = RULED.get();
    for (int i = 2; i < 12; i++) {
      x.rule(1, 0, 0);
    }
    return x;
  };

  EdgesOfRules(Sentences document) {
    super(document);
  }

  @Override
  void run() {
    termsOfLetters();
    termsOfExpressions();
    termsOfSides();
    termsOfNesting();
    termsOfFaults();
    termsOfNumbers();
    termsOfForce();
    ruleIs();
    ruleIsRefused();
    fault();
    strike();
    force();
    vote();
  }

  private void right(String text) {
    Books x = new Books();
    is(text, x.law(1, 0, text), 0);
    is("FAULT of " + text, x.fault(), -1);
  }

  private void fault(String text, int at) {
    Books x = new Books();
    is(text, x.law(1, 0, text), -6);
    is("FAULT of " + text, x.fault(), at);
  }

  /** What one group of one is told by: n = 1, b = 2, h = 30, t = 80, m = 7, w = 5, d = 3, y = 4. */
  private void keeps(String expression, boolean wanted) {
    Books x = Books.country();
    x.days(3);
    x.writes(5, 5, 0, 7);
    x.vote(2, 5, 4);
    is("rule k:" + expression + ";j:x", x.law(1, 0, "k:" + expression + ";j:x"), 0);
    is("kept by " + expression, x.make(2), wanted ? 1 : 0);
  }

  private void termsOfLetters() {
    terms(3);
    edge("A RULE is read from a ROW of letters (elements as ints: of longs the lowest 32 bits)", () -> {
      long[] letters = RIGHT.chars().asLongStream().toArray();
      Books x = new Books();
      for (int sort = 0; sort < 4; sort++) {
        x.put(0, sort, letters);
        is("of SORT " + sort, x.rule(1, 0, 0), sort);
      }
      for (int i = 0; i < letters.length; i++) {
        x.set(0, i, letters[i] + ((i + 1L) << 32));
      }
      is("the lowest 32 bits", x.rule(1, 0, 0), 4);
      x.set(0, 2, 'n' - (1L << 62));
      is("of one below 0", x.rule(1, 0, 0), 5);
      for (long more : new long[] {1L << 31, 1L << 16, 1L << 8, 1 << 7, -(1L << 31)}) {
        x.set(0, 2, 'n' + more);
        is("32 bits, not less", x.rule(1, 0, 0), -6);
        is("FAULT", x.fault(), 2);
      }
    });
    edge("k:EXPR;j: and one of x l c", () -> {
      right("k:n<1;j:x");
      right("k:n<1;j:l");
      right("k:n<1;j:c");
      fault("k:n<1;j:X", 8);
      fault("k:n<1;j:k", 8);
      fault("k:n<1;j:", 8);
      fault("k:n<1;j:xl", 9);
      fault("k:n<1;j", 7);
      fault("k:n<1j:x", 5);
      fault("k:n<1;:x", 6);
      fault("k:;j:x", 2);
      fault("kn<1;j:x", 1);
      fault(":n<1;j:x", 0);
      fault("j:x;k:n<1", 0);
    });
  }

  private void termsOfExpressions() {
    edge("EXPR: AND-parts with | between", () -> {
      keeps("1=1|1=2", true);
      keeps("1=2|1=1", true);
      keeps("1=2|1=2", false);
      keeps("1=2|1=2|1=1", true);
      keeps("1=1|1=1&1=2", true);
      keeps("1=2&1=1|1=1", true);
      fault("k:|n<1;j:x", 2);
      fault("k:n<1|;j:x", 6);
      fault("k:n<1||n<2;j:x", 6);
    });
    edge("an AND-part: parts with & between", () -> {
      keeps("1=1&1=1", true);
      keeps("1=1&1=2", false);
      keeps("1=2&1=1", false);
      keeps("1=1&1=1&1=2", false);
      keeps("1=1&1=2|1=2", false);
      fault("k:&n<1;j:x", 2);
      fault("k:n<1&;j:x", 6);
      fault("k:n<1&&n<2;j:x", 6);
    });
    edge("a part: ! and a part, or EXPR in ( ), or a TEST: SIDE, one of < > =, SIDE", () -> {
      keeps("!1=2", true);
      keeps("!1=1", false);
      keeps("!!1=1", true);
      keeps("!1=1|1=1", true);
      keeps("!1=2&1=2", false);
      keeps("!(1=1&1=2)", true);
      keeps("!(1=2|1=1)", false);
      keeps("(1=1|1=1)&1=2", false);
      keeps("1=2&(1=2|1=1)", false);
      keeps("((1=1))", true);
      keeps("1<2", true);
      keeps("2<2", false);
      keeps("3>2", true);
      keeps("2>2", false);
      keeps("2=2", true);
      keeps("2=3", false);
      fault("k:n<=1;j:x", 4);
      fault("k:(n<1;j:x", 6);
      fault("k:n<1);j:x", 5);
      fault("k:();j:x", 3);
      fault("k:n;j:x", 3);
      fault("k:n!=1;j:x", 3);
      fault("k:1<2<3;j:x", 5);
    });
  }

  private void termsOfSides() {
    edge("SIDE: a FIELD, or a number 0 to 9,999 (no 0 ahead of another digit), or a number, * and a FIELD", () -> {
      keeps("0<1", true);
      keeps("9999>9998", true);
      keeps("9999=9999", true);
      keeps("10<9", false);
      keeps("1000>999", true);
      keeps("0*m=0", true);
      keeps("1*m=7", true);
      keeps("7=1*m", true);
      keeps("9999*m>9999", true);
      keeps("9999*t>9999*h", true);
      keeps("3*h>t", true);
      keeps("2*h>t", false);
      keeps("4*b=2*y", true);
      fault("k:10000<1;j:x", 6);
      fault("k:1<10000;j:x", 8);
      fault("k:00<1;j:x", 3);
      fault("k:01<1;j:x", 3);
      fault("k:1<00;j:x", 5);
      fault("k:0001*n<1;j:x", 3);
      fault("k:m*2<1;j:x", 3);
      fault("k:2*2<1;j:x", 4);
      fault("k:2m<1;j:x", 3);
      fault("k:m*m<1;j:x", 3);
      fault("k:2*m*m<1;j:x", 5);
      fault("k:-1<1;j:x", 2);
      fault("k:*m<1;j:x", 2);
      fault("k:mb<1;j:x", 3);
      fault("k:<1;j:x", 2);
      fault("k:1<;j:x", 4);
      fault("k:2*<1;j:x", 4);
      fault("k:1<2*;j:x", 6);
      fault("k:!<1;j:x", 3);
      fault("k:(1<);j:x", 5);
      fault("k:1<&1<2;j:x", 4);
    });
  }

  private void termsOfNesting() {
    edge("No more than 20 ( and ! within one another", () -> {
      right("k:" + "(".repeat(20) + "n<1" + ")".repeat(20) + ";j:x");
      right("k:" + "!".repeat(20) + "n<1;j:x");
      right("k:" + "!(".repeat(10) + "n<1" + ")".repeat(10) + ";j:x");
      right("k:" + "!".repeat(20) + "n<1|" + "!".repeat(20) + "n<1;j:x");
      right("k:(" + "!".repeat(19) + "n<1&" + "!".repeat(19) + "n<1);j:x");
      right("k:" + "(n<1)&".repeat(4) + "!n<1&".repeat(4) + "n<1;j:x");
      keeps("!".repeat(20) + "1=1", true);
      keeps("!".repeat(19) + "1=1", false);
      fault("k:" + "(".repeat(21) + "n<1", 22);
      fault("k:" + "!".repeat(21) + "n<1;j:x", 22);
      fault("k:" + "(!".repeat(10) + "(", 22);
      fault("k:" + "(!".repeat(10) + "!", 22);
      fault("k:(" + "!".repeat(19) + "n<1&" + "!".repeat(20) + "n<1", 45);
      fault("k:n<1&" + "(".repeat(21), 26);
    });
  }

  private void termsOfFaults() {
    edge("Its FAULT: the first place at which an element can't stand as RULES go on (the number of elements, if it ends too early)",
        () -> {
          fault("", 0);
          for (int n = 1; n < RIGHT.length(); n++) {
            fault(RIGHT.substring(0, n), n);
          }
          fault("x", 0);
          fault("kk", 1);
          fault("k::", 2);
          fault("k:n:", 3);
          fault("k:n<<", 4);
          fault("k:n<1;;", 6);
          fault("k:n<1;jj", 7);
          fault("k:n<1;j:;", 8);
          fault("k:n<1;j:x;", 9);
          fault("k:n<1;j:x\0", 9);
          fault("k:(((n<1)", 9);
          fault("k:2", 3);
          fault("k:2*", 4);
          fault("k:!", 3);
          fault("k:?;j:?", 2);
          right("k:" + "1<2&".repeat(12) + "n<5555;j:x");
          fault("k:" + "1<2&".repeat(14) + "1<", 60);
          fault("k:" + "1<2&".repeat(12) + "n<5555;j:y", 59);
          fault("k:" + "1<2&".repeat(12) + "n<555;j:xx", 59);
        });
  }

  private void termsOfNumbers() {
    edge("RULES have numbers, from 0 on, 12 at most, each for a LEVEL 1 to 3, from a DAY on", () -> {
      Books x = new Books();
      x.text(0, RIGHT);
      for (int i = 0; i < 12; i++) {
        is("RULE " + i, x.rule(1 + i % 3, 100 * i, 0), i);
      }
      is("a 13th", x.rule(1, 0, 0), -7);
      is("how many", x.status(3), 12);
      is("no 13th", x.strike(12), -1);
      for (int i = 0; i < 12; i++) {
        is("from its DAY", x.force(1 + i % 3, 100 * i), i);
        is("not ahead of it", x.force(1 + i % 3, 100 * i - 1), i < 3 ? -1 : i - 3);
      }
      is("LEVEL 0", x.rule(0, 0, 0), -1);
      is("LEVEL 4", x.rule(4, 0, 0), -1);
    });
  }

  private void termsOfForce() {
    edge("IN FORCE for a LEVEL on a DAY: of those of it from that DAY or earlier that weren't STRUCK by then that with the latest DAY, of several the greatest number",
        () -> {
          Books x = new Books();
          x.text(0, RIGHT);
          int[][] rules = {{1, 10}, {1, 20}, {1, 10}, {2, 15}, {1, 20}, {1, 5}};
          for (int[] rule : rules) {
            x.rule(rule[0], rule[1], 0);
          }
          int[][] inForce = {{4, -1}, {5, 5}, {9, 5}, {10, 2}, {19, 2}, {20, 4}, {4000, 4}};
          for (int[] due : inForce) {
            is("on DAY " + due[0], x.force(1, due[0]), due[1]);
          }
          is("another LEVEL", x.force(2, 30), 3);
          x.days(25);
          x.strike(4);
          is("STRUCK that DAY", x.force(1, 25), 1);
          is("not by the DAY ahead", x.force(1, 24), 4);
          x.days(1);
          x.strike(1);
          is("of an earlier DAY", x.force(1, 26), 2);
          x.strike(2);
          is("of that DAY the other", x.force(1, 26), 0);
          is("as it was", x.force(1, 25), 1);
        });
    edge("none: all is kept, joined by x", () -> {
      for (int n = 0; n < 3; n++) {
        Books x = Books.country();
        x.writes(4, 0, 0, 10);
        x.writes(5, 0, 0, 90);
        x.writes(5, 1, 0, 0);
        x.law(1, n == 0 ? 1 : 0, "k:n>9;j:l");
        x.law(2, 0, "k:n>9;j:l");
        if (n == 1) {
          x.strike(0);
        }
        is("from a later DAY, STRUCK, neither", x.make(2), n == 2 ? 0 : 2);
        is("joined by x", x.ask(3, 4), n == 2 ? -1 : 90);
      }
    });
  }

  private void ruleIs() {
    promise(27);
    edge("A RULE for a LEVEL from a DAY on by the ROW in SHELF s: its number", () -> {
      Books x = RULED.get();
      is("LEVEL 3, DAY 4,000", x.rule(3, 4000, 0), 2);
      is("LEVEL 3, DAY 0", x.rule(3, 0, 0), 3);
      is("LEVEL 1", x.rule(1, 0, 0), 4);
      is("its LEVEL and DAY", x.force(3, 4000), 2);
      is("its LEVEL and DAY", x.force(3, 3999), 3);
      Books y = Books.country();
      y.writes(4, 0, 0, 0);
      y.text(0, "k:n>0;j:x");
      y.rule(1, 0, 0);
      y.set(0, 3, '<');
      is("the ROW as it was", y.make(2), 1);
    });
    edge("-7", () -> {
      Supplier<Books> room = () -> {
        Books x = RULED.get();
        for (int i = 2; i < 11; i++) {
          x.rule(1, 0, 0);
        }
        return x;
      };
      is("the 12th", room.get().rule(1, 0, 0), 11);
      refused("a 13th", -7, FULL, x -> x.rule(1, 0, 0));
      refused("a 13th of another LEVEL", -7, FULL, x -> x.rule(3, 4000, 0));
    });
  }

  private void ruleIsRefused() {
    edge("-1 either", () -> {
      for (int level : new int[] {-1, 0, 4, LEAST, GREATEST}) {
        refused("LEVEL " + level, -1, RULED, x -> x.rule(level, 0, 0));
      }
      for (int s : new int[] {-1, 8, LEAST, GREATEST}) {
        refused("SHELF " + s, -1, RULED, x -> x.rule(1, 0, s));
      }
    });
    edge("-2", () -> refused("an ASK", -2, RULED, x -> x.rule(1, 0, 1)));
    edge("-3", () -> refused("NOTHING", -3, RULED, x -> x.rule(1, 0, 2)));
    edge("-6 DAY not 0 to 4,000, a FAULT", () -> {
      for (int day : new int[] {-1, 4001, LEAST, GREATEST}) {
        refused("DAY " + day, -6, RULED, x -> x.rule(1, day, 0));
        refused("DAY " + day + ", a FAULT", -6, RULED, x -> x.rule(1, day, 3));
      }
      is("DAY 0", RULED.get().rule(1, 0, 0), 2);
      is("DAY 4,000", RULED.get().rule(1, 4000, 0), 2);
      refused("a FAULT", -6, RULED, x -> x.rule(1, 0, 3));
    });
  }

  private void fault() {
    promise(28);
    edge("The FAULT of the latest rule() that came to a ROW (with DAY right)", () -> {
      Books x = RULED.get();
      is("the latest", x.fault(), 8);
      x.row(4, 0, 0);
      is("of none", x.rule(3, 4000, 4), -6);
      is("its FAULT", x.fault(), 0);
      x.rule(3, 4000, 3);
      is("another", x.fault(), 8);
      x.rule(3, 4001, 4);
      is("DAY 4,001", x.fault(), 8);
      x.rule(3, -1, 4);
      is("DAY -1", x.fault(), 8);
      x.rule(3, 4001, 0);
      is("DAY 4,001 of a right one", x.fault(), 8);
      x.rule(0, 0, 4);
      is("LEVEL 0", x.fault(), 8);
      x.rule(1, 0, 8);
      is("SHELF 8", x.fault(), 8);
      x.rule(1, 0, 1);
      is("an ASK", x.fault(), 8);
      x.rule(1, 0, 2);
      is("NOTHING", x.fault(), 8);
      Books y = FULL.get();
      y.rule(1, 0, 3);
      is("of a 13th", y.fault(), 8);
      onlyTells("asked for again", 8, RULED, Books::fault);
    });
    edge("NONE: it was a RULE, or none yet", () -> {
      is("none yet", new Books().fault(), -1);
      Books x = RULED.get();
      x.rule(1, 0, 0);
      is("a RULE", x.fault(), -1);
      Books y = Books.country();
      y.rule(1, 0, 0);
      y.rule(1, 4001, 0);
      is("none came to a ROW", y.fault(), -1);
    });
  }

  private void strike() {
    promise(29);
    edge("A RULE is STRUCK from NOW on: 1", () -> {
      Books x = RULED.get();
      is("strike", x.strike(1), 1);
      is("from NOW on", x.force(2, 7), -1);
      is("later", x.force(2, 4000), -1);
      is("not ahead of it", x.force(2, 6), 1);
      is("ahead of its DAY", x.rule(3, 100, 0) + x.strike(2), 3);
      is("never in force", x.force(3, 100), -1);
      is("never in force", x.force(3, 4000), -1);
      Books y = new Books();
      y.law(1, 0, RIGHT);
      is("on DAY 0", y.strike(0), 1);
      is("not even then", y.force(1, 0), -1);
    });
    edge("-1", () -> {
      for (int rule : new int[] {-1, 2, LEAST, GREATEST}) {
        refused("RULE " + rule, -1, RULED, x -> x.strike(rule));
      }
      refused("RULE 12", -1, FULL, x -> x.strike(12));
      refused("of none", -1, Books.bare(x -> { }), x -> x.strike(0));
    });
    edge("-6 it was", () -> {
      refused("that DAY", -6, RULED, x -> x.strike(0));
      Books x = RULED.get();
      x.days(400);
      is("later", x.strike(0), -6);
      is("since when stays", x.force(1, 7), -1);
      is("since when stays", x.force(1, 6), 0);
    });
  }

  private void force() {
    promise(30);
    edge("The RULE IN FORCE for a LEVEL 1 to 3 on a DAY", () -> {
      Books x = RULED.get();
      x.rule(3, 4000, 0);
      is("LEVEL 1", x.force(1, 5), 0);
      is("LEVEL 2", x.force(2, 0), 1);
      is("LEVEL 3", x.force(3, 4000), 2);
      onlyTells("STRUCK since", 0, RULED, y -> y.force(1, 6));
    });
    edge("NONE: none, no such LEVEL", () -> {
      onlyTells("not yet", -1, RULED, x -> x.force(1, 4));
      onlyTells("STRUCK", -1, RULED, x -> x.force(1, 7));
      onlyTells("none of LEVEL 3", -1, RULED, x -> x.force(3, 4000));
      onlyTells("DAY -1", -1, RULED, x -> x.force(2, -1));
      onlyTells("the least DAY", -1, RULED, x -> x.force(2, LEAST));
      for (int level : new int[] {-1, 0, 4, LEAST, GREATEST}) {
        onlyTells("LEVEL " + level, -1, RULED, x -> x.force(level, 7));
      }
    });
  }

  private void vote() {
    promise(31);
    edge("The yes of a PLACE for a WHAT becomes n: what it was", () -> {
      Books x = RULED.get();
      is("0 at first", x.vote(2, 0, 99), 0);
      is("was 99", x.vote(2, 0, 0), 99);
      is("was 0", x.vote(2, 0, 1), 0);
      is("of WHAT 15", x.vote(2, 15, 7), 0);
      is("of THE TOP", x.vote(0, 0, 2), 0);
      is("of a PARISH", x.vote(7, 0, 3), 0);
      is("each its own", x.vote(2, 0, 0), 1);
      is("each its own", x.vote(0, 0, 0), 2);
      is("each its own", x.vote(2, 15, 0), 7);
    });
    edge("-1", () -> {
      for (int p : new int[] {-1, 8, LEAST, GREATEST}) {
        refused("PLACE " + p, -1, RULED, x -> x.vote(p, 0, 1));
      }
    });
    edge("-6 WHAT, n not 0 to 99", () -> {
      for (int what : new int[] {-1, 16, LEAST, GREATEST}) {
        refused("WHAT " + what, -6, RULED, x -> x.vote(2, what, 1));
      }
      for (int n : new int[] {-1, 100, LEAST, GREATEST}) {
        refused("n " + n, -6, RULED, x -> x.vote(2, 0, n));
      }
    });
  }
}

/** Promises 27 to 32: RULES, their FAULTS, and BOOKS MADE by them. */
public final class RulesTest {
  private static final Due due = new Due("RulesTest");

  public static void main(String[] args) {
    rightRules();
    faults();
    faultsOfNesting();
    faultsOfElements();
    faultStays();
    ruleRefused();
    rulesAreFew();
    strike();
    force();
    vote();
    fields();
    fieldsAbove();
    numbersAndSigns();
    partsOfExpressions();
    joins();
    makeRefused();
    makeByTheRuleInForce();
    makeOfWhatWasMade();
    makeWithoutRule();
    due.close();
  }

  private static String times(String s, int n) {
    return s.repeat(n);
  }

  private static void rightRules() {
    String[] right = {
      "k:n<1;j:x", "k:n>1;j:l", "k:n=1;j:c", "k:0=9999;j:x", "k:10*y<1000*d;j:x",
      "k:n<b&h>t|m=w&d<y;j:c", "k:!n<1;j:x", "k:!!(n<1);j:x", "k:(n<1|!(b>2&w=3))&t>0;j:l",
      "k:((n<1));j:x", "k:0*n=0;j:x", "k:n<1&!n<2|!n<3;j:x", "k:7<n;j:x",
      "k:1<2|1<2|1<2|1<2|1<2|1<2|1<2|1<2|1<2|1<2|1<2|1<2|1<10;j:x",
    };
    for (String text : right) {
      ComplaintBooks x = new ComplaintBooks();
      due.is(text, Setup.rule(x, 1, 0, text), 0);
      due.is("FAULT of " + text, x.fault(), -1);
    }
  }

  private static void fault(String text, int at) {
    ComplaintBooks x = new ComplaintBooks();
    due.is(text, Setup.rule(x, 1, 0, text), -6);
    due.is("FAULT of " + text, x.fault(), at);
    due.is("RULES", x.status(3), 0);
  }

  private static void faults() {
    fault("", 0);
    fault("n", 0);
    fault("k", 1);
    fault("kn", 1);
    fault("k:", 2);
    fault("k:;", 2);
    fault("k:)", 2);
    fault("k:&", 2);
    fault("k:*", 2);
    fault("k:<", 2);
    fault("k:a", 2);
    fault("k:N", 2);
    fault("k:n", 3);
    fault("k:n;", 3);
    fault("k:n)", 3);
    fault("k:n*2", 3);
    fault("k:nb", 3);
    fault("k:n1", 3);
    fault("k:n&", 3);
    fault("k:n<", 4);
    fault("k:n<=1", 4);
    fault("k:n<!", 4);
    fault("k:n<(", 4);
    fault("k:00", 3);
    fault("k:01", 3);
    fault("k:0)", 3);
    fault("k:9999<", 7);
    fault("k:10000", 6);
    fault("k:n<12345", 8);
    fault("k:n<01", 5);
    fault("k:2*", 4);
    fault("k:2*2", 4);
    fault("k:2**", 4);
    fault("k:2n", 3);
    fault("k:2*n*", 5);
    fault("k:n<2*n2", 7);
    fault("k:n<1<2", 5);
    fault("k:n<1!", 5);
    fault("k:n<1(", 5);
    fault("k:n<1)", 5);
    fault("k:n<1n", 5);
    fault("k:n<1&", 6);
    fault("k:n<1&&", 6);
    fault("k:n<1|)", 6);
    fault("k:n<1&;", 6);
    fault("k:(n<1;", 6);
    fault("k:(n<1", 6);
    fault("k:()", 3);
    fault("k:(n<1))", 7);
    fault("k:(n<1)n", 7);
    fault("k:!;", 3);
    fault("k:!)", 3);
    fault("k:n!<1", 3);
    fault("k:(n)<1", 4);
    fault("k:n<1;", 6);
    fault("k:n<1;k", 6);
    fault("k:n<1;j", 7);
    fault("k:n<1;jx", 7);
    fault("k:n<1;j:", 8);
    fault("k:n<1;j:n", 8);
    fault("k:n<1;j:xx", 9);
    fault("k:n<1;j:x;", 9);
    fault("k:n<1;j:x ", 9);
    fault("k: n<1;j:x", 2);
    fault("K:n<1;j:x", 0);
    fault(times("k", 60), 1);
    fault("k:" + times("1<2&", 14) + "1<", 60);
  }

  private static void faultsOfNesting() {
    ComplaintBooks x = new ComplaintBooks();
    due.is("20 (", Setup.rule(x, 1, 0, "k:" + times("(", 20) + "n<1" + times(")", 20) + ";j:x"), 0);
    due.is("20 !", Setup.rule(x, 1, 0, "k:" + times("!", 20) + "n<1;j:x"), 1);
    due.is("20 of both", Setup.rule(x, 1, 0, "k:" + times("!(", 10) + "n<1" + times(")", 10) + ";j:x"), 2);
    due.is("20, and 20", Setup.rule(x, 1, 0, "k:" + times("!", 20) + "n<1&" + times("!", 20) + "n<2;j:x"), 3);
    due.is("side by side",
        Setup.rule(x, 1, 0, "k:" + times("!n<1&", 2) + times("(n<1)|", 3) + times("!", 19) + "n<2;j:x"), 4);
    fault("k:" + times("(", 21) + "n<1", 22);
    fault("k:" + times("!", 21) + "n<1;j:x", 22);
    fault("k:" + times("!(", 10) + "!n<1", 22);
    fault("k:" + times("!(", 10) + "(", 22);
    fault("k:" + times("!", 20) + "n<1&" + times("!", 21), 46);
    fault("k:(" + times("!", 19) + "n<1&" + times("!", 19) + "(n<1", 45);
  }

  private static void faultsOfElements() {
    ComplaintBooks x = new ComplaintBooks();
    long[] text = {'k', ':', 'n', '<', '1', ';', 'j', ':', 'x'};
    for (int sort = 0; sort < 4; sort++) {
      Setup.row(x, 0, sort, text);
      due.is("of SORT " + sort, x.rule(1, 0, 0), sort);
    }
    x.set(0, 2, 'n' + (1L << 32));
    due.is("of longs the lowest 32 bits", x.rule(1, 0, 0), 4);
    x.set(0, 2, 'n' + (1L << 31));
    due.is("of longs 32 bits, not 31", x.rule(1, 0, 0), -6);
    due.is("FAULT", x.fault(), 2);
    x.set(0, 2, -1);
    due.is("-1", x.rule(1, 0, 0), -6);
    due.is("FAULT", x.fault(), 2);
    x.set(0, 2, 'n');
    x.set(0, 4, '1' + 65536);
    due.is("as ints, not as letters of 16 bits", x.rule(1, 0, 0), -6);
    due.is("FAULT", x.fault(), 4);
    Setup.row(x, 0, 2, 'k', ':', 'n' + 256, '<', '1', ';', 'j', ':', 'x');
    due.is("as ints, not as bytes", x.rule(1, 0, 0), -6);
    due.is("FAULT", x.fault(), 2);
    x.row(0, 0, 0);
    due.is("none", x.rule(1, 0, 0), -6);
    due.is("FAULT", x.fault(), 0);
  }

  private static void faultStays() {
    ComplaintBooks x = Setup.country();
    due.is("none yet", x.fault(), -1);
    Setup.rule(x, 1, 0, "k:n<1;x");
    due.is("FAULT", x.fault(), 6);
    x.rule(4, 0, 7);
    due.is("no LEVEL", x.fault(), 6);
    x.rule(1, 0, 8);
    due.is("no SHELF", x.fault(), 6);
    x.rule(1, 0, 0);
    due.is("NOTHING", x.fault(), 6);
    x.rule(1, 4001, 7);
    due.is("DAY", x.fault(), 6);
    Setup.rule(x, 1, -1, "k:n<1;j:x");
    due.is("DAY of a right one", x.fault(), 6);
    Setup.ask(x, 4, 0, 0, 0);
    x.show(0, 0);
    x.rule(1, 0, 0);
    due.is("an ASK", x.fault(), 6);
    Setup.rule(x, 1, 0, "k:n<1;j:x");
    due.is("a RULE", x.fault(), -1);
    Setup.rule(x, 1, 0, "j");
    due.is("another FAULT", x.fault(), 0);
  }

  private static void ruleRefused() {
    ComplaintBooks x = Setup.country();
    Setup.text(x, 0, "k:n<1;j:x");
    Setup.ask(x, 4, 0, 0, 0);
    x.show(1, 0);
    due.is("LEVEL 0", x.rule(0, 0, 0), -1);
    due.is("LEVEL 4", x.rule(4, -1, 1), -1);
    due.is("no SHELF", x.rule(1, 0, 8), -1);
    due.is("no SHELF", x.rule(1, 0, -1), -1);
    due.is("an ASK", x.rule(1, -1, 1), -2);
    due.is("NOTHING", x.rule(1, -1, 2), -3);
    due.is("DAY -1", x.rule(1, -1, 0), -6);
    due.is("DAY 4001", x.rule(1, 4001, 0), -6);
    due.is("DAY 4000, LEVEL 3", x.rule(3, 4000, 0), 0);
    due.is("RULES", x.status(3), 1);
  }

  private static void rulesAreFew() {
    ComplaintBooks x = new ComplaintBooks();
    Setup.text(x, 0, "k:n<1;j:x");
    for (int i = 0; i < 12; i++) {
      due.is("rule " + i, x.rule(1 + i % 3, i, 0), i);
    }
    due.is("a 13th", x.rule(1, 0, 0), -7);
    due.is("a 13th, DAY", x.rule(1, 4001, 0), -6);
    Setup.text(x, 0, "k:n<1;j:y");
    due.is("a 13th with a FAULT", x.rule(1, 0, 0), -6);
    due.is("its FAULT", x.fault(), 8);
    Setup.text(x, 0, "k:n<1;j:l");
    due.is("a 13th without", x.rule(1, 0, 0), -7);
    due.is("has none", x.fault(), -1);
    due.is("-7", Setup.refusals(x, -7), 2);
    x.strike(0);
    due.is("STRUCK ones are RULES", x.rule(1, 0, 0), -7);
  }

  private static void strike() {
    ComplaintBooks x = new ComplaintBooks();
    x.days(5);
    Setup.rule(x, 1, 2, "k:n<1;j:x");
    x.days(5);
    due.is("in force", x.force(1, 10), 0);
    due.is("strike", x.strike(0), 1);
    due.is("from NOW on", x.force(1, 10), -1);
    due.is("and later", x.force(1, 4000), -1);
    due.is("not ahead of it", x.force(1, 9), 0);
    due.is("not ahead of its DAY", x.force(1, 1), -1);
    due.is("it was", x.strike(0), -6);
    due.is("no RULE", x.strike(1), -1);
    due.is("no RULE", x.strike(-1), -1);
    x.days(1);
    due.is("it was, later", x.strike(0), -6);
    due.is("from that DAY", x.force(1, 10), -1);
  }

  private static void force() {
    ComplaintBooks x = new ComplaintBooks();
    Setup.rule(x, 2, 100, "k:n<1;j:x");
    Setup.rule(x, 2, 50, "k:n<1;j:x");
    Setup.rule(x, 2, 100, "k:n<1;j:x");
    Setup.rule(x, 3, 60, "k:n<1;j:x");
    Setup.rule(x, 2, 70, "k:n<1;j:x");
    due.is("none yet", x.force(2, 49), -1);
    due.is("from its DAY", x.force(2, 50), 1);
    due.is("till the next", x.force(2, 69), 1);
    due.is("the next", x.force(2, 70), 4);
    due.is("the latest DAY, the greatest number", x.force(2, 100), 2);
    due.is("another LEVEL", x.force(3, 100), 3);
    due.is("none of that LEVEL", x.force(1, 100), -1);
    due.is("no LEVEL", x.force(0, 100), -1);
    due.is("no LEVEL", x.force(4, 100), -1);
    due.is("far on", x.force(2, Integer.MAX_VALUE), 2);
    due.is("far back", x.force(2, Integer.MIN_VALUE), -1);
    x.strike(2);
    due.is("struck: of that DAY another", x.force(2, 100), 0);
    x.strike(0);
    due.is("struck: an earlier one", x.force(2, 100), 4);
    due.is("no REFUSAL", Setup.refusals(x, -1), 0);
  }

  private static void vote() {
    ComplaintBooks x = Setup.country();
    due.is("was 0", x.vote(0, 0, 99), 0);
    due.is("was 99", x.vote(0, 0, 0), 99);
    due.is("another WHAT", x.vote(0, 15, 5), 0);
    due.is("another PLACE", x.vote(7, 15, 6), 0);
    due.is("was 5", x.vote(0, 15, 1), 5);
    due.is("no PLACE", x.vote(8, 99, 0), -1);
    due.is("no PLACE", x.vote(-1, 0, 0), -1);
    due.is("WHAT 16", x.vote(0, 16, 0), -6);
    due.is("WHAT -1", x.vote(0, -1, 0), -6);
    due.is("n 100", x.vote(0, 0, 100), -6);
    due.is("n -1", x.vote(0, 15, -1), -6);
    due.is("it stays", x.vote(0, 15, 1), 1);
  }

  /** How many groups the DISTRICT 2 keeps by EXPR: PARISHES 4 and 5 ask WHAT 3, PARISH 4 WHAT 9. */
  private static int kept(String expression, int day, int yes) {
    ComplaintBooks x = Setup.country();
    x.parish(2, 1, 1, 100);
    Setup.ask(x, 4, 3, 0, 20);
    Setup.ask(x, 5, 3, 0, 10);
    Setup.ask(x, 4, 9, 1, 40);
    x.vote(2, 9, yes);
    x.vote(1, 3, 77);
    if (day > 0) {
      x.days(day);
    }
    due.is("rule of " + expression, Setup.rule(x, 1, 0, "k:" + expression + ";j:x"), 0);
    return x.make(2);
  }

  private static void keeps(String expression, int wanted) {
    due.is("make by " + expression, kept(expression, 6, 7), wanted);
  }

  private static void fields() {
    keeps("n=1", 1);
    keeps("n=2", 1);
    keeps("n>0", 2);
    keeps("b=3", 2);
    keeps("h=80", 1);
    keeps("h=50", 1);
    keeps("t=180", 2);
    keeps("m=20", 1);
    keeps("m=40", 1);
    keeps("m=10", 0);
    keeps("w=3", 1);
    keeps("w=9", 1);
    keeps("d=6", 2);
    due.is("d on DAY 0", kept("d=0", 0, 0), 2);
    keeps("y=7", 1);
    keeps("y=0", 1);
    due.is("y told as 0", kept("y=0", 0, 0), 2);
  }

  private static void fieldsAbove() {
    String[] right = {"n=2&w=1|n=1&w=2", "b=2", "t=170", "h=150&w=1|h=20&w=2", "m=60&w=1|m=10&w=2"};
    for (String expression : right) {
      ComplaintBooks x = Setup.country();
      Setup.ask(x, 4, 1, 0, 40);
      Setup.ask(x, 5, 1, 0, 60);
      Setup.ask(x, 6, 1, 0, 20);
      Setup.ask(x, 7, 2, 0, 10);
      x.make(2);
      x.make(3);
      Setup.rule(x, 2, 0, "k:" + expression + ";j:x");
      due.is("a SHIRE by " + expression, x.make(1), 2);
      Setup.rule(x, 3, 0, "k:n=1&b=1&t=170;j:x");
      due.is("THE TOP", x.make(0), 2);
    }
  }

  private static void numbersAndSigns() {
    keeps("2*n>b", 1);
    keeps("1*n=1", 1);
    keeps("2*h>t", 0);
    keeps("3*h>t", 1);
    keeps("4*h>t", 2);
    keeps("9999*h>9999*m", 2);
    keeps("0*h=0*t", 2);
    keeps("9999*t>9999", 2);
    keeps("1<2", 2);
    keeps("2<1", 0);
    keeps("1>2", 0);
    keeps("2>1", 2);
    keeps("1=1", 2);
    keeps("1<1", 0);
    keeps("1>1", 0);
    keeps("1234=1234", 2);
    keeps("n<3&3>n", 2);
  }

  private static void partsOfExpressions() {
    keeps("1=1|1=1&1=2", 2);
    keeps("1=2&1=1|1=1", 2);
    keeps("1=2&(1=1|1=1)", 0);
    keeps("!1=2&1=1", 2);
    keeps("!(1=2&1=1)", 2);
    keeps("!1=1&1=2", 0);
    keeps("!(1=1&1=2)", 2);
    keeps("!1=1|1=1", 2);
    keeps("!(1=1|1=1)", 0);
    keeps("!!1=1", 2);
    keeps("!!!1=1", 0);
    keeps("1=1&1=1&1=2", 0);
    keeps("1=2|1=2|1=1", 2);
    keeps("(1=2|1=1)&(1=1|1=2)", 2);
    keeps("w=3|w=9", 2);
    keeps("w=3&w=9", 0);
    keeps("!w=3", 1);
  }

  private static int joined(String join, int... muches) {
    ComplaintBooks x = Setup.country();
    for (int i = 0; i < 3; i++) {
      x.parish(2, 1, 0, 1);
    }
    int[] parishes = {4, 5, 8, 9, 10};
    for (int i = 0; i < muches.length; i++) {
      Setup.ask(x, parishes[i], 1, 1, muches[i]);
    }
    Setup.rule(x, 1, 0, "k:n>0;j:" + join);
    due.is("make", x.make(2), 1);
    return x.ask(muches.length, 4);
  }

  private static void joins() {
    due.is("x of one", joined("x", 5), 5);
    due.is("l of one", joined("l", 5), 5);
    due.is("c of one", joined("c", 5), 5);
    due.is("x", joined("x", 5, 9, 7), 9);
    due.is("l", joined("l", 5, 9, 3), 3);
    due.is("c of two", joined("c", 9, 5), 5);
    due.is("c of two", joined("c", 5, 9), 5);
    due.is("c of three", joined("c", 9, 5, 7), 7);
    due.is("c of four", joined("c", 9, 5, 7, 1), 5);
    due.is("c of four, like ones", joined("c", 9, 9, 9, 1), 9);
    due.is("c of four, like ones", joined("c", 1, 9, 1, 1), 1);
    due.is("c of five", joined("c", 0, 99, 50, 99, 0), 50);
    due.is("c of five, like ones", joined("c", 3, 99, 3, 99, 3), 3);
    due.is("x of 0", joined("x", 0, 0), 0);
  }

  private static void makeRefused() {
    ComplaintBooks x = Setup.country();
    due.is("no PLACE", x.make(8), -1);
    due.is("no PLACE", x.make(-1), -1);
    due.is("a PARISH", x.make(4), -6);
    due.is("of nothing", x.make(2), 0);
    due.is("MADE", x.about(2, 5), 1);
    due.is("it was", x.make(2), -6);
    due.is("BOOKS MADE", x.status(6), 1);
    due.is("a PARISH isn't MADE", x.about(4, 5), 0);
    x.make(0);
    due.is("BOOKS MADE", x.status(6), 2);
  }

  private static void makeByTheRuleInForce() {
    ComplaintBooks x = Setup.country();
    Setup.rule(x, 1, 0, "k:n>1;j:x");
    Setup.rule(x, 1, 10, "k:n>0;j:l");
    Setup.rule(x, 1, 20, "k:n>0;j:x");
    Setup.ask(x, 4, 1, 1, 3);
    Setup.ask(x, 5, 1, 1, 2);
    Setup.ask(x, 6, 1, 1, 3);
    x.days(9);
    due.is("on NOW: n>1", x.make(3), 0);
    due.is("DROPPED", x.ask(2, 10), 3);
    due.is("went into none", x.ask(2, 9), -1);
    x.days(1);
    due.is("on NOW: n>0", x.make(2), 1);
    due.is("joined by l", x.ask(3, 4), 2);
    due.is("MADE on", x.ask(3, 5), 10);
    ComplaintBooks y = Setup.country();
    Setup.rule(y, 1, 0, "k:n>1;j:x");
    Setup.ask(y, 4, 1, 1, 3);
    y.strike(0);
    due.is("STRUCK", y.make(2), 1);
  }

  private static void makeOfWhatWasMade() {
    ComplaintBooks x = Setup.country();
    Setup.ask(x, 4, 1, 1, 3);
    Setup.ask(x, 6, 1, 1, 4);
    Setup.ask(x, 6, 2, 1, 4);
    x.withdraw(2);
    Setup.rule(x, 1, 0, "k:n>0;j:x");
    x.make(3);
    due.is("of one DISTRICT", x.make(1), 1);
    due.is("one PART", x.part(4, 0), 3);
    due.is("one PART", x.part(4, 1), -1);
    due.is("HEARTHS behind", x.ask(4, 11), 70);
    due.is("the other DISTRICT", x.make(2), 1);
    due.is("went no further", x.end(0), 5);
    due.is("nor DROPPED", x.lost(0), -1);
    due.is("THE TOP", x.make(0), 1);
    due.is("at the end", x.end(1), 6);
    due.is("KIND", x.ask(6, 0), 2);
    due.is("PLACE", x.ask(6, 1), 0);
  }

  private static void makeWithoutRule() {
    ComplaintBooks x = Setup.country();
    Setup.ask(x, 4, 1, 1, 3);
    Setup.ask(x, 5, 1, 1, 8);
    Setup.ask(x, 5, 1, 2, 0);
    Setup.rule(x, 2, 0, "k:n>9;j:l");
    due.is("all is kept", x.make(2), 2);
    due.is("joined by x", x.ask(3, 4), 8);
    due.is("the SHIRE by its RULE", x.make(1), 0);
    due.is("DROPPED", x.ask(3, 10), 1);
    due.is("DROPPED ones", x.status(8), 2);
  }
}

/** Promises 41 to 46. */
public final class ClashesTest {
  private static final Due due = new Due("ClashesTest");

  public static void main(String[] args) {
    clash();
    leave();
    leaveFewest();
    leaveMade();
    judge();
    judgeRefused();
    twelveAtMost();
    best();
    bestJoins();
    bestSpaceAndClash();
    bestOfSeveral();
    bestOf();
    bestRefused();
    said();
    due.close();
  }

  private static void clash() {
    ComplaintBooks x = new ComplaintBooks();
    due.is("told", x.clash(0, 15, true), 1);
    due.is("told again", x.clash(0, 15, true), 0);
    due.is("the other way about", x.clash(15, 0, true), 0);
    due.is("told otherwise", x.clash(15, 0, false), 1);
    due.is("told otherwise", x.clash(0, 15, false), 0);
    due.is("with itself", x.clash(7, 7, true), 1);
    due.is("with itself", x.clash(7, 7, true), 0);
    due.is("with itself", x.clash(7, 7, false), 1);
    due.is("never", x.clash(3, 4, false), 0);
    due.is("a 16", x.clash(16, 0, true), -6);
    due.is("a -1", x.clash(-1, 0, true), -6);
    due.is("b 16", x.clash(0, 16, true), -6);
    due.is("b -1", x.clash(0, -1, true), -6);
    due.is("-6", Setup.refusals(x, -6), 4);
  }

  /** PARISH 4 asks WHATS 0 to n - 1. */
  private static ComplaintBooks asking(int n) {
    ComplaintBooks x = Setup.country();
    for (int i = 0; i < n; i++) {
      Setup.ask(x, 4, i, 0, 1);
    }
    return x;
  }

  private static void leave() {
    ComplaintBooks x = asking(4);
    due.is("none CLASH", x.leave(4), 0);
    x.clash(1, 1, true);
    due.is("with itself, alone", x.leave(4), 0);
    x.clash(1, 3, true);
    due.is("the least as bits", x.leave(4), 2);
    x.clash(2, 3, true);
    due.is("the fewest", x.leave(4), 8);
    x.withdraw(3);
    due.is("WITHDRAWN", x.leave(4), 0);
    x.clash(0, 2, true);
    due.is("another", x.leave(4), 1);
    Setup.ask(x, 4, 1, 5, 1);
    due.is("two of a WHAT", x.leave(4), 3);
    x.tear(4, 2);
    due.is("GAPS", x.leave(4), 0);
    due.is("no ASKS", x.leave(5), 0);
    due.is("not MADE", x.leave(2), 0);
    due.is("no PLACE", x.leave(8), -1);
    due.is("no PLACE", x.leave(-1), -1);
  }

  private static void leaveFewest() {
    ComplaintBooks x = asking(6);
    int[][] ring = {{0, 1}, {1, 2}, {2, 3}, {3, 4}, {4, 5}, {5, 0}};
    for (int[] pair : ring) {
      x.clash(pair[0], pair[1], true);
    }
    due.is("a ring of six", x.leave(4), 0b010101);
    x.clash(0, 3, true);
    due.is("with a way across", x.leave(4), 0b010101);
    x.clash(0, 2, true);
    due.is("with two", x.leave(4), 0b010101);
    x.clash(1, 3, true);
    due.is("with three", x.leave(4), 0b010111);
    for (int i = 0; i < 6; i++) {
      for (int j = 0; j < i; j++) {
        x.clash(i, j, true);
      }
    }
    due.is("all CLASH", x.leave(4), 0b011111);
    ComplaintBooks y = asking(5);
    for (int i = 0; i < 4; i++) {
      y.clash(i, 4, true);
    }
    due.is("a star", y.leave(4), 16);
  }

  private static void leaveMade() {
    ComplaintBooks x = Setup.country();
    Setup.ask(x, 4, 9, 0, 1);
    Setup.ask(x, 5, 3, 0, 1);
    Setup.ask(x, 5, 3, 1, 1);
    x.make(2);
    x.clash(3, 9, true);
    due.is("of a DISTRICT", x.leave(2), 4);
    x.withdraw(0);
    due.is("that stays", x.leave(2), 4);
    x.clash(3, 3, true);
    due.is("of a DISTRICT", x.leave(2), 3);
    due.is("of a PARISH", x.leave(5), 1);
  }

  private static int judge(ComplaintBooks x, int place, long... without) {
    Setup.row(x, 5, 2, without);
    return x.judge(place, 5);
  }

  private static void judge() {
    ComplaintBooks x = asking(4);
    due.is("none CLASH", judge(x, 4), 1);
    x.clash(1, 2, true);
    due.is("two CLASH", judge(x, 4), 0);
    due.is("without another", judge(x, 4, 0, 3), 0);
    due.is("without one", judge(x, 4, 1), 1);
    due.is("without the other", judge(x, 4, 2, 2, 2), 1);
    due.is("without all", judge(x, 4, 3, 2, 1, 0), 1);
    due.is("an i of none", judge(x, 4, 4), -6);
    due.is("an i of none", judge(x, 4, 1, -1), -6);
    x.withdraw(0);
    due.is("as leave() counts them", judge(x, 4, 0), 1);
    due.is("as leave() counts them", judge(x, 4, 2), 0);
    due.is("as leave() counts them", judge(x, 4, 3), -6);
    due.is("no ASKS", judge(x, 5), 1);
    due.is("no ASKS", judge(x, 5, 0), -6);
    x.clash(1, 2, false);
    x.clash(3, 3, true);
    due.is("with itself, one", judge(x, 4), 1);
    Setup.ask(x, 4, 3, 1, 1);
    due.is("with itself, two", judge(x, 4), 0);
    Setup.row(x, 5, 3, 2 + (1L << 32));
    due.is("of longs the lowest 32 bits", x.judge(4, 5), 1);
  }

  private static void judgeRefused() {
    ComplaintBooks x = asking(1);
    x.row(0, 0, 0);
    x.show(1, 0);
    due.is("no PLACE", x.judge(8, 1), -1);
    due.is("no PLACE", x.judge(-1, 0), -1);
    due.is("no SHELF", x.judge(4, 8), -1);
    due.is("no SHELF", x.judge(4, -1), -1);
    due.is("an ASK", x.judge(4, 1), -2);
    due.is("NOTHING", x.judge(4, 2), -3);
  }

  private static void twelveAtMost() {
    ComplaintBooks x = asking(12);
    x.clash(10, 11, true);
    due.is("twelve", x.leave(4), 1024);
    due.is("judge of twelve", judge(x, 4, 11), 1);
    due.is("judge of twelve", judge(x, 4, 9), 0);
    Setup.ask(x, 4, 12, 0, 1);
    due.is("thirteen", x.leave(4), -7);
    due.is("judge of thirteen", judge(x, 4, 12), -7);
    due.is("an i of none first", judge(x, 4, 13), -6);
    x.withdraw(0);
    due.is("twelve that stand", x.leave(4), 512);
    due.is("-7", Setup.refusals(x, -7), 2);
  }

  private static void best() {
    ComplaintBooks x = Setup.country();
    Setup.ask(x, 4, 1, 0, 40);
    Setup.ask(x, 5, 1, 0, 60);
    Setup.ask(x, 5, 2, 1, 30);
    due.is("two", x.best(2, 2), 10400);
    due.is("joined by l", x.bestOf(0), 2);
    due.is("joined by x", x.bestOf(1), 1);
    due.is("one", x.best(2, 1), 7400);
    due.is("not in it", x.bestOf(1), 0);
    due.is("none", x.best(2, 0), 0);
    due.is("not in it", x.bestOf(0), 0);
    due.is("more than there are", x.best(2, 12), 10400);
    Setup.rule(x, 1, 0, "k:1=2;j:x");
    due.is("kept or not", x.best(2, 2), 10400);
    x.make(2);
    due.is("MADE", x.best(2, 2), 10400);
    x.withdraw(0);
    due.is("as they would be now", x.best(2, 2), 6000);
    due.is("nothing below was MADE", x.best(0, 2), 0);
    due.is("none of none", x.bestOf(0), -1);
  }

  private static void bestJoins() {
    ComplaintBooks x = Setup.country();
    x.parish(2, 1, 0, 30);
    Setup.ask(x, 4, 0, 0, 10);
    Setup.ask(x, 5, 0, 0, 20);
    Setup.ask(x, 8, 0, 0, 90);
    due.is("c", x.best(2, 1), 50 * 90 + 30 * 100 + 30 * 30);
    due.is("c", x.bestOf(0), 3);
    Setup.ask(x, 4, 1, 0, 90);
    Setup.ask(x, 5, 1, 0, 20);
    Setup.ask(x, 4, 2, 0, 7);
    Setup.ask(x, 5, 2, 0, 7);
    x.best(2, 3);
    due.is("c", x.bestOf(0), 3);
    due.is("x says most", x.bestOf(1), 1);
    due.is("the first of like ones", x.bestOf(2), 1);
  }

  private static void bestSpaceAndClash() {
    ComplaintBooks x = Setup.country();
    Setup.ask(x, 4, 0, 0, 0);
    Setup.ask(x, 5, 1, 0, 0);
    Setup.ask(x, 5, 1, 1, 0);
    Setup.ask(x, 5, 2, 0, 0);
    due.is("all", x.best(2, 4), 14000);
    x.clash(0, 1, true);
    due.is("without those that CLASH", x.best(2, 4), 9000);
    due.is("two of them for one", x.best(2, 4) - x.best(2, 2), 1000);
    due.is("the greater one", x.bestOf(0), 1);
    x.clash(0, 2, true);
    due.is("three small ones", x.best(2, 3), 9000);
    due.is("the greater one not", x.bestOf(0), 0);
    due.is("in it", x.bestOf(1) + x.bestOf(2) + x.bestOf(3), 3);
    due.is("in a SPACE of two", x.best(2, 2), 6000);
    x.clash(1, 1, true);
    due.is("a WHAT with itself", x.best(2, 4), 6000);
    due.is("the first", x.bestOf(1), 1);
    due.is("not the second", x.bestOf(2), 0);
    x.clash(2, 2, true);
    due.is("alone with itself", x.bestOf(3), 1);
    due.is("alone with itself", x.best(2, 4), 6000);
  }

  private static void bestOfSeveral() {
    ComplaintBooks x = Setup.country();
    for (int what = 0; what < 4; what++) {
      Setup.ask(x, 4, what, 0, 5);
    }
    due.is("two of like ones", x.best(2, 2), 10000);
    due.is("the least as bits", x.bestOf(0), 1);
    due.is("the least as bits", x.bestOf(1), 1);
    due.is("the least as bits", x.bestOf(2), 0);
    x.clash(0, 1, true);
    x.best(2, 2);
    due.is("the least as bits: 101", x.bestOf(0), 1);
    due.is("the least as bits: 101", x.bestOf(1), 0);
    due.is("the least as bits: 101", x.bestOf(2), 1);
  }

  private static void bestOf() {
    ComplaintBooks x = Setup.country();
    due.is("none yet", x.bestOf(0), -1);
    Setup.ask(x, 4, 3, 1, 0);
    Setup.ask(x, 6, 0, 0, 0);
    Setup.ask(x, 4, 3, 0, 0);
    x.clash(3, 3, true);
    due.is("best", x.best(2, 12), 5000);
    due.is("by WHOM", x.bestOf(0), 1);
    due.is("by WHOM", x.bestOf(1), 0);
    due.is("no more", x.bestOf(2), -1);
    due.is("-1", x.bestOf(-1), -1);
    x.best(8, 1);
    x.best(2, 13);
    due.is("refused ones aside", x.bestOf(0), 1);
    x.withdraw(0);
    due.is("as it was", x.bestOf(1), 0);
    due.is("another PLACE", x.best(3, 12), 7000);
    due.is("its groups", x.bestOf(0), 1);
    due.is("no more", x.bestOf(1), -1);
    due.is("-6, -1", Setup.refusals(x, -6) + Setup.refusals(x, -1), 2);
  }

  private static void bestRefused() {
    ComplaintBooks x = Setup.country();
    for (int i = 0; i < 10; i++) {
      Setup.ask(x, 4, i / 2, i % 2, 0);
    }
    due.is("ten", x.best(2, 12), 50000);
    Setup.ask(x, 5, 0, 0, 0);
    due.is("ten groups of more", x.best(2, 12), 53000);
    Setup.ask(x, 5, 15, 0, 0);
    due.is("eleven", x.best(2, 12), -7);
    due.is("the latest not refused", x.bestOf(9), 1);
    due.is("eleven, SPACE", x.best(2, 13), -6);
    due.is("SPACE -1", x.best(2, -1), -6);
    due.is("a PARISH", x.best(4, 1), -6);
    due.is("no PLACE", x.best(8, 13), -1);
    due.is("no PLACE", x.best(-1, 1), -1);
  }

  private static void said() {
    ComplaintBooks x = Setup.country();
    Setup.ask(x, 4, 1, 0, 40);
    Setup.ask(x, 5, 1, 0, 60);
    Setup.ask(x, 6, 1, 0, 20);
    Setup.ask(x, 5, 2, 1, 30);
    due.is("not MADE", x.said(2), -1);
    due.is("a PARISH", x.said(4), -1);
    Setup.rule(x, 1, 0, "k:w=1;j:x");
    x.make(2);
    due.is("joined by x, one DROPPED", x.said(2), 50 * 80 + 30 * 100);
    x.withdraw(1);
    due.is("that stays", x.said(2), 7000);
    x.make(3);
    Setup.rule(x, 2, 0, "k:w=1;j:c");
    x.make(1);
    due.is("joined by c", x.said(1), 80 * 60 + 70 * 100);
    x.make(0);
    due.is("THE TOP", x.said(0), 15000);
    due.is("no PLACE", x.said(8), -1);
    due.is("no PLACE", x.said(-1), -1);
    due.is("no REFUSAL", Setup.refusals(x, -1), 0);
    ComplaintBooks y = Setup.country();
    y.make(2);
    due.is("of no ASKS", y.said(2), 0);
  }
}

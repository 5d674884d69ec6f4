/** Promises 33, 34 and 47: who asks, who knew, what by other RULES would come to the top. */
public final class KnownTest {
  private static final Due due = new Due("KnownTest");

  public static void main(String[] args) {
    count();
    countMost();
    asked();
    askedWithdrawn();
    askedOfSome();
    otherByHearths();
    otherByOrders();
    otherAtTheTop();
    otherAreFew();
    due.close();
  }

  private static void count() {
    ComplaintBooks x = Setup.country();
    Setup.ask(x, 4, 1, 2, 3);
    Setup.ask(x, 5, 1, 2, 3);
    Setup.ask(x, 7, 1, 2, 3);
    Setup.ask(x, 7, 1, 3, 3);
    due.is("of all", x.count(1, 2, 3, false), 3);
    due.is("of ORDER 0", x.count(1, 2, 0, false), 2);
    due.is("of ORDER 1", x.count(1, 2, 1, false), 1);
    due.is("of ORDER 2", x.count(1, 2, 2, false), 0);
    due.is("another WHOM", x.count(1, 3, 3, false), 1);
    x.make(2);
    due.is("MERGED ones don't count", x.count(1, 2, 3, false), 3);
    x.withdraw(0);
    due.is("WITHDRAWN ones neither", x.count(1, 2, 3, false), 2);
    due.is("nor at most", x.count(1, 2, 3, true), 2);
    due.is("LATE ones do", Setup.ask(x, 4, 1, 2, 3), 5);
    due.is("LATE ones do", x.count(1, 2, 0, false), 2);
    due.is("ORDER 4", x.count(1, 2, 4, false), -1);
    due.is("ORDER -1", x.count(1, 2, -1, false), -1);
    due.is("WHAT 16", x.count(16, 2, 0, false), -1);
    due.is("WHAT -1", x.count(-1, 2, 0, false), -1);
    due.is("WHOM 8", x.count(1, 8, 0, true), -1);
    due.is("WHOM -1", x.count(1, -1, 0, true), -1);
    due.is("no REFUSAL", Setup.refusals(x, -1) + Setup.refusals(x, -6), 0);
  }

  private static void countMost() {
    ComplaintBooks x = Setup.country();
    Setup.ask(x, 4, 1, 2, 3);
    Setup.ask(x, 4, 5, 2, 3);
    Setup.ask(x, 5, 1, 2, 3);
    x.tear(4, 1);
    x.tear(7, 0);
    due.is("asks ahead of the GAPS", x.count(1, 2, 3, false), 2);
    due.is("and those that may", x.count(1, 2, 3, true), 3);
    due.is("GAPS", x.count(5, 2, 3, false), 0);
    due.is("GAPS that may", x.count(5, 2, 3, true), 2);
    due.is("of ORDER 0", x.count(9, 0, 0, true), 2);
    due.is("of ORDER 1", x.count(9, 0, 1, true), 0);
    due.is("of ORDER 1", x.count(1, 2, 1, true), 1);
  }

  private static void asked() {
    ComplaintBooks x = Setup.country();
    x.days(10);
    Setup.ask(x, 4, 1, 2, 3);
    x.days(10);
    Setup.ask(x, 5, 1, 2, 3);
    Setup.ask(x, 5, 1, 3, 3);
    due.is("known where it is asked", x.asked(1, 2, 10, 4, 10), 1);
    due.is("not ahead of its DAY", x.asked(1, 2, 9, 4, 50), 0);
    due.is("not known yet at THE TOP", x.asked(1, 2, 10, 0, 15), 0);
    due.is("known at THE TOP", x.asked(1, 2, 10, 0, 16), 1);
    due.is("not known ahead of it", x.asked(1, 2, 4000, 4, 9), 0);
    due.is("AS OF 19", x.asked(1, 2, 19, 0, 100), 1);
    due.is("AS OF 20", x.asked(1, 2, 20, 0, 100), 2);
    due.is("one of them known", x.asked(1, 2, 20, 0, 26), 1);
    due.is("both known", x.asked(1, 2, 20, 0, 27), 2);
    due.is("later than NOW", x.asked(1, 2, Integer.MAX_VALUE, 0, Integer.MAX_VALUE), 2);
    due.is("far back", x.asked(1, 2, Integer.MIN_VALUE, 0, Integer.MIN_VALUE), 0);
    due.is("known at a PARISH", x.asked(1, 2, 20, 7, 33), 2);
    due.is("known at a PARISH", x.asked(1, 2, 20, 7, 32), 1);
    x.make(2);
    due.is("MERGED ones don't count", x.asked(1, 2, 20, 2, 20), 1);
    due.is("no PLACE", x.asked(1, 2, 20, 8, 20), -1);
    due.is("no PLACE", x.asked(1, 2, 20, -1, 20), -1);
    due.is("WHAT", x.asked(16, 2, 20, 0, 20), -1);
    due.is("WHAT", x.asked(-1, 2, 20, 0, 20), -1);
    due.is("WHOM", x.asked(1, 8, 20, 0, 20), -1);
    due.is("WHOM", x.asked(1, -1, 20, 0, 20), -1);
    due.is("no REFUSAL", Setup.refusals(x, -1) + Setup.refusals(x, -6), 0);
  }

  private static void askedWithdrawn() {
    ComplaintBooks x = Setup.country();
    x.days(10);
    Setup.ask(x, 4, 1, 2, 3);
    x.days(10);
    x.withdraw(0);
    due.is("ahead of it", x.asked(1, 2, 19, 4, 99), 1);
    due.is("on its DAY", x.asked(1, 2, 20, 4, 20), 0);
    due.is("not known yet", x.asked(1, 2, 20, 4, 19), 1);
    due.is("not known yet at THE TOP", x.asked(1, 2, 20, 0, 25), 1);
    due.is("known at THE TOP", x.asked(1, 2, 20, 0, 26), 0);
    due.is("known, AS OF ahead of it", x.asked(1, 2, 19, 0, 26), 1);
    x.days(10);
    Setup.ask(x, 4, 1, 2, 3);
    due.is("asked again", x.asked(1, 2, 30, 4, 30), 1);
    due.is("between", x.asked(1, 2, 29, 4, 30), 0);
    due.is("two ASKS of a PARISH are one", x.asked(1, 2, 30, 0, 100), 1);
  }

  private static void askedOfSome() {
    ComplaintBooks x = Setup.country();
    Setup.ask(x, 4, 1, 2, 3);
    Setup.ask(x, 4, 2, 2, 3);
    x.tear(4, 0);
    due.is("GAPS count", x.asked(1, 2, 0, 4, 0), 1);
    Setup.ask(x, 5, 1, 2, 3);
    x.withdraw(2);
    due.is("WITHDRAWN on its DAY", x.asked(1, 2, 0, 5, 10), 1);
    due.is("of the other, on one DAY", x.asked(1, 2, 0, 4, 3), 1);
    Setup.ask(x, 5, 1, 2, 3);
    due.is("again on one DAY", x.asked(1, 2, 0, 5, 10), 2);
  }

  private static void otherByHearths() {
    ComplaintBooks x = Setup.country();
    Setup.ask(x, 4, 1, 2, 3);
    Setup.ask(x, 5, 1, 2, 3);
    due.is("less than half", x.other(0, 0), -1);
    Setup.ask(x, 7, 1, 2, 3);
    due.is("more than half", x.other(0, 0), 10);
    Setup.ask(x, 4, 0, 7, 3);
    Setup.ask(x, 6, 0, 7, 3);
    due.is("by codes", x.other(0, 0), 7);
    due.is("by codes", x.other(0, 1), 10);
    due.is("no more", x.other(0, 2), -1);
    x.withdraw(0);
    due.is("WITHDRAWN", x.other(0, 1), -1);
    x.tear(6, 0);
    due.is("a GAP", x.other(0, 0), -1);
    ComplaintBooks y = Setup.country();
    y.parish(2, 1, 0, 170);
    Setup.ask(y, 8, 15, 7, 1);
    due.is("half", y.other(0, 0), -1);
    Setup.ask(y, 7, 15, 7, 1);
    due.is("the greatest code", y.other(0, 0), 127);
    due.is("no such mode", y.other(3, 0), -1);
    due.is("no such mode", y.other(-1, 0), -1);
    due.is("-1", y.other(0, -1), -1);
    due.is("no REFUSAL", Setup.refusals(y, -1) + Setup.refusals(y, -6), 0);
    due.is("no PARISHES", new ComplaintBooks().other(0, 0), -1);
  }

  private static void otherByOrders() {
    ComplaintBooks x = Setup.country();
    Setup.ask(x, 5, 1, 0, 1);
    due.is("one ORDER", x.other(1, 0), -1);
    Setup.ask(x, 4, 1, 0, 1);
    due.is("half of another", x.other(1, 0), -1);
    Setup.ask(x, 7, 1, 0, 1);
    due.is("two ORDERS", x.other(1, 0), 8);
    Setup.ask(x, 5, 0, 1, 1);
    Setup.ask(x, 6, 0, 1, 1);
    due.is("two others", x.other(1, 0), 1);
    due.is("by codes", x.other(1, 1), 8);
    Setup.ask(x, 6, 1, 0, 1);
    due.is("three ORDERS", x.other(1, 1), 8);
    due.is("no more", x.other(1, 2), -1);
    ComplaintBooks y = new ComplaintBooks();
    y.place(0, 1);
    y.place(1, 1);
    y.parish(2, 1, 2, 5);
    Setup.ask(y, 3, 1, 1, 1);
    due.is("ORDERS with none", y.other(1, 0), -1);
  }

  private static void otherAtTheTop() {
    ComplaintBooks x = Setup.country();
    Setup.ask(x, 7, 3, 1, 1);
    Setup.ask(x, 4, 2, 6, 1);
    x.make(2);
    x.make(3);
    x.make(1);
    due.is("not MADE", x.other(2, 0), -1);
    x.make(0);
    due.is("THE TOP's BOOK", x.other(2, 0), 22);
    due.is("THE TOP's BOOK", x.other(2, 1), 25);
    due.is("no more", x.other(2, 2), -1);
    x.withdraw(0);
    due.is("that stays", x.other(2, 1), 25);
  }

  private static void otherAreFew() {
    ComplaintBooks x = new ComplaintBooks();
    x.place(0, 1);
    x.place(1, 1);
    x.parish(2, 1, 0, 7);
    x.parish(2, 1, 1, 7);
    x.row(0, 0, 0);
    for (int i = 0; i < 20; i++) {
      x.write(3, i / 8, i % 8, 1, 0);
      x.write(4, i / 8, i % 8, 1, 0);
    }
    x.make(2);
    x.make(1);
    x.make(0);
    for (int mode = 0; mode < 3; mode++) {
      due.is("the 16th", x.other(mode, 15), 15);
      due.is("the 17th", x.other(mode, 16), -1);
      due.is("far on", x.other(mode, Integer.MAX_VALUE), -1);
    }
  }
}

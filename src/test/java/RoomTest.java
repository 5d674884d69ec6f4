import com.sun.management.ThreadMXBean;
import java.lang.management.ManagementFactory;
import java.util.function.Consumer;

/** Rule 12 of ../shared/LANGUAGE.md: what the calls of an object make is little, and most make nothing. */
public final class RoomTest {
  private static final Due due = new Due("RoomTest");
  private static final ThreadMXBean THREADS = (ThreadMXBean) ManagementFactory.getThreadMXBean();
  private static final int MOST_BYTES = 100_000;
  private static final int AGAIN = 1000;
  // what the machine itself may put in between while a test counts
  private static final int SLACK = 4000;

  public static void main(String[] args) {
    fill(new ComplaintBooks());
    long ahead = made();
    ComplaintBooks x = new ComplaintBooks();
    fill(x);
    long bytes = made() - ahead;
    due.is(bytes + " bytes for a full object", bytes > 0 && bytes < MOST_BYTES ? 1 : 0, 1);
    due.is("ASKS", x.status(1), 160);
    due.is("RULES", x.status(3), 12);
    makesNothing("tellers", x, RoomTest::tell);
    makesNothing("best, leave, judge", x, RoomTest::reckon);
    makesNothing("SHELVES", x, RoomTest::shelve);
    makesNothing("refused calls", x, RoomTest::ask);
    due.close();
  }

  private static long made() {
    return THREADS.getCurrentThreadAllocatedBytes();
  }

  private static void makesNothing(String what, ComplaintBooks x, Consumer<ComplaintBooks> calls) {
    calls.accept(x);
    long ahead = made();
    for (int i = 0; i < AGAIN; i++) {
      calls.accept(x);
    }
    long bytes = made() - ahead;
    due.is(what + " make nothing, but " + bytes + " bytes", bytes < SLACK ? 1 : 0, 1);
  }

  /** All numbers there are: 160 ASKS with 20 WORDS or many PARTS, 12 RULES of 57 letters. */
  private static void fill(ComplaintBooks x) {
    x.place(0, 1);
    x.place(1, 1);
    x.row(0, 0, 20);
    for (int p = 3; p < 24; p++) {
      x.parish(2, 1, p % 3, p);
      x.person(p, p);
    }
    for (int m = 0; m < 8; m++) {
      x.model(m, 0, m);
    }
    Setup.text(x, 1, "k:" + "1=1&".repeat(12) + "1=1;j:c");
    for (int r = 0; r < 12; r++) {
      x.rule(1 + r % 3, r, 1);
    }
    for (int a = 0; a < 152; a++) {
      x.write(3 + a % 21, a / 21, 0, a % 100, 0);
    }
    x.make(2);
    x.show(7, 0);
  }

  private static void tell(ComplaintBooks x) {
    x.path(3, 23);
    x.about(2, 4);
    x.says(7, 1);
    x.reaches(0, 3);
    x.ask(159, 11);
    x.likeness(0, 0);
    x.chance(0, true);
    x.less(0);
    x.part(159, 0);
    x.end(0);
    x.lost(0);
    x.book(2, 7);
    x.force(1, 100);
    x.count(0, 0, 3, true);
    x.asked(0, 0, 100, 0, 100);
    x.bestOf(0);
    x.said(2);
    x.other(0, 5);
    x.other(1, 5);
    x.other(2, 5);
    for (int what = 0; what < 18; what++) {
      x.status(what);
    }
  }

  private static void reckon(ComplaintBooks x) {
    x.row(2, 0, 8);
    x.clash(1, 2, true);
    x.best(2, 10);
    x.leave(2);
    x.judge(2, 2);
    x.choose(3, 2);
    x.unchoose(3);
  }

  private static void shelve(ComplaintBooks x) {
    for (int sort = 0; sort < 4; sort++) {
      x.row(3, sort, 60);
      x.row(4, sort, 60);
      x.set(3, 59, 7L);
      x.copy(3, 4, 0, 0, 60);
      x.element(4, 59);
    }
    x.show(4, 159);
    x.holds(4);
    x.show(4, -1);
  }

  /** A country that has no room for anything more. */
  private static void ask(ComplaintBooks x) {
    x.place(0, 1);
    x.parish(2, 1, 0, 1);
    x.model(0, 0, 0);
    x.write(23, 8, 0, 0, 0);
    x.rule(1, 0, 1);
    x.person(3, 0);
    x.make(2);
  }
}

/** Promises 7 to 13. */
public final class ShelvesTest {
  private static final Due due = new Due("ShelvesTest");

  public static void main(String[] args) {
    row();
    set();
    lowestBits();
    copy();
    copyRefused();
    element();
    show();
    holds();
    says();
    saysRefused();
    due.close();
  }

  private static void row() {
    ComplaintBooks x = new ComplaintBooks();
    due.is("row of none", x.row(0, 0, 0), 1);
    due.is("row of 60", x.row(7, 3, 60), 1);
    due.is("SHELF 8", x.row(8, 0, 1), -1);
    due.is("SHELF -1", x.row(-1, 9, -1), -1);
    due.is("n -1", x.row(0, 9, -1), -4);
    due.is("SORT 4", x.row(0, 4, 61), -6);
    due.is("SORT -1", x.row(0, -1, 1), -6);
    due.is("n 61", x.row(0, 0, 61), -7);
    due.is("what it held stays", x.holds(0), 1000);
    x.row(1, 2, 3);
    x.set(1, 2, 5);
    due.is("a new ROW in its place", x.row(1, 2, 3), 1);
    due.is("is 0 at first", x.element(1, 2), 0);
    x.row(1, 2, 2);
    due.is("shorter", x.set(1, 2, 1), -5);
  }

  private static void set() {
    ComplaintBooks x = Setup.country();
    x.row(0, 2, 3);
    due.is("first", x.set(0, 0, 7), 1);
    due.is("last", x.set(0, 2, 9), 1);
    due.is("it is there", x.element(0, 2), 9);
    due.is("beyond", x.set(0, 3, 9), -5);
    due.is("beyond", x.set(0, -1, 9), -5);
    due.is("no SHELF", x.set(8, 0, 9), -1);
    due.is("no SHELF", x.set(-1, 0, 9), -1);
    due.is("NOTHING", x.set(1, 0, 9), -3);
    Setup.ask(x, 4, 0, 0, 0);
    x.show(2, 0);
    due.is("an ASK", x.set(2, 0, 9), -2);
    x.row(3, 0, 0);
    due.is("a ROW of none", x.set(3, 0, 9), -5);
  }

  private static void lowestBits() {
    ComplaintBooks x = new ComplaintBooks();
    long v = 0x1234_5678_9ABC_DEF0L;
    for (int sort = 0; sort < 4; sort++) {
      x.row(sort, sort, 1);
      x.set(sort, 0, v);
    }
    due.is("byte", x.element(0, 0), (byte) 0xF0);
    due.is("short", x.element(1, 0), (short) 0xDEF0);
    due.is("int", x.element(2, 0), 0x9ABCDEF0);
    due.is("long", x.element(3, 0), v);
    x.set(0, 0, 128);
    due.is("byte 128", x.element(0, 0), -128);
    x.set(0, 0, 127);
    due.is("byte 127", x.element(0, 0), 127);
    x.set(1, 0, 32768);
    due.is("short 32768", x.element(1, 0), -32768);
    x.set(2, 0, 1L << 31);
    due.is("int 2^31", x.element(2, 0), Integer.MIN_VALUE);
    x.set(3, 0, Long.MIN_VALUE);
    due.is("long, the least", x.element(3, 0), Long.MIN_VALUE);
  }

  private static void copy() {
    ComplaintBooks x = new ComplaintBooks();
    Setup.row(x, 0, 1, 1, 2, 3, 4, 5);
    Setup.row(x, 1, 1, 10, 20, 30);
    due.is("copy", x.copy(0, 1, 2, 1, 2), 1);
    due.is("ahead of it", x.element(1, 0), 10);
    due.is("copied", x.element(1, 1), 3);
    due.is("copied", x.element(1, 2), 4);
    due.is("to itself, on", x.copy(0, 0, 0, 1, 4), 1);
    long[] on = {1, 1, 2, 3, 4};
    for (int i = 0; i < 5; i++) {
      due.is("as they were", x.element(0, i), on[i]);
    }
    due.is("to itself, back", x.copy(0, 0, 1, 0, 4), 1);
    long[] back = {1, 2, 3, 4, 4};
    for (int i = 0; i < 5; i++) {
      due.is("as they were", x.element(0, i), back[i]);
    }
    due.is("none, at the end", x.copy(0, 1, 5, 3, 0), 1);
    due.is("all", x.copy(1, 0, 0, 2, 3), 1);
    due.is("the last", x.element(0, 4), 4);
  }

  private static void copyRefused() {
    ComplaintBooks x = Setup.country();
    Setup.row(x, 0, 1, 1, 2, 3, 4, 5);
    Setup.row(x, 1, 1, 10, 20, 30);
    Setup.row(x, 2, 2, 10, 20, 30);
    Setup.ask(x, 4, 0, 0, 0);
    x.show(3, 0);
    due.is("no SHELF", x.copy(8, 3, 0, 0, 1), -1);
    due.is("no SHELF", x.copy(3, -1, 0, 0, 1), -1);
    due.is("an ASK", x.copy(3, 0, 0, 0, 1), -2);
    due.is("an ASK", x.copy(0, 3, 0, 0, 1), -2);
    due.is("an ASK and NOTHING", x.copy(4, 3, 0, 0, -1), -2);
    due.is("an ASK and NOTHING", x.copy(3, 4, 0, 0, -1), -2);
    due.is("two SORTS", x.copy(0, 2, 0, 0, -1), -2);
    due.is("NOTHING", x.copy(0, 4, 0, 0, -1), -3);
    due.is("NOTHING", x.copy(4, 2, 9, 9, 1), -3);
    due.is("NOTHING in both", x.copy(4, 5, 0, 0, 1), -3);
    due.is("n", x.copy(0, 1, -1, 0, -1), -4);
    due.is("i", x.copy(0, 1, -1, 0, 1), -5);
    due.is("j", x.copy(0, 1, 0, -1, 1), -5);
    due.is("i, none", x.copy(0, 1, -1, 0, 0), -5);
    due.is("end of p", x.copy(0, 0, 3, 0, 3), -5);
    due.is("end of q", x.copy(0, 1, 0, 1, 3), -5);
    due.is("beyond, none", x.copy(0, 1, 6, 0, 0), -5);
    due.is("beyond, none", x.copy(0, 1, 0, 4, 0), -5);
    due.is("the greatest", x.copy(0, 1, Integer.MAX_VALUE, 0, Integer.MAX_VALUE), -5);
    due.is("the greatest", x.copy(0, 1, 0, Integer.MAX_VALUE, 1), -5);
    due.is("nothing changed", x.element(1, 0), 10);
    due.is("-5", Setup.refusals(x, -5), 9);
  }

  private static void element() {
    ComplaintBooks x = Setup.country();
    Setup.row(x, 0, 0, 5, 6);
    due.is("first", x.element(0, 0), 5);
    due.is("last", x.element(0, 1), 6);
    due.is("beyond", x.element(0, 2), 0);
    due.is("below", x.element(0, -1), 0);
    due.is("no SHELF", x.element(8, 0), 0);
    due.is("no SHELF", x.element(-1, 0), 0);
    due.is("NOTHING", x.element(1, 0), 0);
    Setup.ask(x, 4, 0, 0, 0);
    x.show(0, 0);
    due.is("an ASK", x.element(0, 0), 0);
    x.row(0, 0, 1);
    due.is("a new ROW", x.element(0, 0), 0);
    for (int r = -1; r >= -7; r--) {
      due.is("no REFUSAL", Setup.refusals(x, r), 0);
    }
  }

  private static void show() {
    ComplaintBooks x = Setup.country();
    Setup.ask(x, 4, 0, 0, 33);
    due.is("an ASK", x.show(0, 0), 1);
    due.is("it holds it", x.holds(0), 0);
    due.is("NOTHING", x.show(0, -1), 0);
    due.is("it holds NOTHING", x.holds(0), -1);
    due.is("no ASK", x.show(0, 1), -1);
    due.is("no ASK", x.show(0, -2), -1);
    due.is("no SHELF", x.show(8, 0), -1);
    due.is("no SHELF", x.show(-1, -1), -1);
    x.row(1, 3, 2);
    due.is("in place of a ROW", x.show(1, 0), 1);
    due.is("no ROW any more", x.set(1, 0, 0), -2);
    x.row(1, 3, 2);
    due.is("a refused one", x.show(1, 5), -1);
    due.is("changes nothing", x.holds(1), 1003);
    due.is("NOTHING in place of a ROW", x.show(1, -1), 0);
    due.is("no ROW", x.set(1, 0, 0), -3);
  }

  private static void holds() {
    ComplaintBooks x = Setup.country();
    due.is("NOTHING", x.holds(0), -1);
    for (int sort = 0; sort < 4; sort++) {
      x.row(0, sort, 1);
      due.is("a ROW", x.holds(0), 1000 + sort);
    }
    Setup.ask(x, 4, 0, 0, 33);
    Setup.ask(x, 5, 0, 0, 33);
    x.show(0, 1);
    due.is("an ASK", x.holds(0), 1);
    x.row(0, 0, 0);
    due.is("a ROW of none", x.holds(0), 1000);
    due.is("no SHELF", x.holds(8), -1);
    due.is("no SHELF", x.holds(-1), -1);
    due.is("no REFUSAL", Setup.refusals(x, -1), 0);
  }

  private static void says() {
    ComplaintBooks x = Setup.country();
    Setup.row(x, 0, 0, 1, 2, 3, 4);
    x.model(1, 0, 4);
    Setup.row(x, 0, 0, 1, 2, 3, 9);
    x.write(4, 1, 0, 40, 0);
    Setup.ask(x, 5, 1, 0, 60);
    x.show(0, 0);
    due.is("BORROWED as ASK", x.says(0, 0), 40);
    due.is("BORROWED", x.says(0, 1), 3);
    due.is("BORROWED as MERGED", x.says(0, 2), -2);
    due.is("BORROWED as BOUND", x.says(0, 3), -2);
    x.show(1, 1);
    due.is("ASK", x.says(1, 0), 60);
    due.is("ASK as BORROWED", x.says(1, 1), -2);
    due.is("ASK as MERGED", x.says(1, 2), -2);
    x.make(2);
    x.show(2, 2);
    due.is("MERGED as ASK", x.says(2, 0), 60);
    due.is("MERGED as BORROWED", x.says(2, 1), -2);
    due.is("MERGED", x.says(2, 2), 2);
    due.is("MERGED as BOUND", x.says(2, 3), -2);
    x.person(4, 1);
    Setup.row(x, 3, 0, 0);
    x.choose(4, 3);
    x.choose(2, 3);
    due.is("bind", x.bind(2), 0);
    due.is("BOUND as ASK", x.says(2, 0), 60);
    due.is("BOUND as BORROWED", x.says(2, 1), -2);
    due.is("BOUND as MERGED", x.says(2, 2), 2);
    due.is("BOUND, the ASK as it is", x.says(2, 3), 102);
    x.unbind(2);
    x.days(20);
    due.is("BOUND still of that KIND", x.says(2, 3), 102);
  }

  private static void saysRefused() {
    ComplaintBooks x = Setup.country();
    Setup.ask(x, 4, 0, 0, 33);
    x.show(0, 0);
    due.is("KIND 4", x.says(0, 4), -1);
    due.is("KIND -1", x.says(0, -1), -1);
    due.is("SHELF 8", x.says(8, 0), -1);
    due.is("SHELF -1", x.says(-1, 0), -1);
    due.is("NOTHING", x.says(1, 0), -3);
    due.is("NOTHING, no KIND", x.says(1, 4), -1);
    x.row(1, 0, 1);
    due.is("a ROW", x.says(1, 0), -2);
    due.is("a ROW, no KIND", x.says(1, 9), -1);
  }
}

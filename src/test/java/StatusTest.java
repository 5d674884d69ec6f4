/** Promise 48, and that a REFUSAL changes nothing but how many there were. */
public final class StatusTest {
  private static final Due due = new Due("StatusTest");

  public static void main(String[] args) {
    howMany();
    refusals();
    nothingChanges();
    constants();
    due.close();
  }

  private static void howMany() {
    ComplaintBooks x = Setup.country();
    Setup.row(x, 0, 0, 1, 2, 3);
    x.model(1, 0, 4);
    x.model(1, 0, 4);
    x.write(4, 1, 0, 5, 0);
    x.write(5, 2, 0, 5, 0);
    x.write(5, 3, 0, 5, 0);
    Setup.rule(x, 1, 0, "k:!w=3;j:x");
    Setup.rule(x, 3, 0, "k:!w=3;j:x");
    x.strike(1);
    x.person(4, 1);
    x.days(7);
    x.make(2);
    x.make(3);
    x.write(5, 4, 0, 5, 0);
    Setup.row(x, 0, 0, 0);
    x.choose(4, 0);
    x.choose(2, 0);
    x.give(3);
    long[] due0 = {8, 6, 2, 2, 1, 7, 2, 1, 1, 1, 1, 0, 0, 0, 0, 0, 0, 0};
    for (int what = 0; what < 18; what++) {
      due.is("status(" + what + ")", x.status(what), due0[what]);
    }
    due.is("status(18)", x.status(18), -1);
    due.is("status(-1)", x.status(-1), -1);
    due.is("status(least)", x.status(Integer.MIN_VALUE), -1);
    due.is("status(greatest)", x.status(Integer.MAX_VALUE), -1);
  }

  private static void refusals() {
    ComplaintBooks x = Setup.country();
    Setup.ask(x, 4, 0, 0, 1);
    x.show(1, 0);
    x.row(0, 0, 1);
    int[] times = {1, 2, 3, 4, 5, 6, 7};
    for (int i = 0; i < 7; i++) {
      for (int n = 0; n < times[i]; n++) {
        switch (i) {
          case 0: x.set(9, 0, 0); break;
          case 1: x.set(1, 0, 0); break;
          case 2: x.set(2, 0, 0); break;
          case 3: x.row(0, 0, -1); break;
          case 4: x.set(0, 1, 0); break;
          case 5: x.days(0); break;
          default: x.row(0, 0, 61); break;
        }
      }
    }
    for (int i = 0; i < 7; i++) {
      due.is("REFUSALS " + (-1 - i), x.status(11 + i), times[i]);
    }
  }

  private static void nothingChanges() {
    ComplaintBooks x = Setup.country();
    Setup.ask(x, 4, 0, 0, 1);
    x.place(0, 100);
    x.parish(2, 1, 0, 0);
    x.write(4, 0, 0, 1, 6);
    x.model(16, 6, 0);
    x.person(4, -1);
    x.rule(1, 0, 6);
    x.make(4);
    due.is("PLACES", x.status(0), 8);
    due.is("ASKS", x.status(1), 1);
    due.is("MODELS", x.status(2), 0);
    due.is("RULES", x.status(3), 0);
    due.is("PERSONS", x.status(4), 0);
    due.is("BOOKS MADE", x.status(6), 0);
    due.is("-6", x.status(16), 7);
    ComplaintBooks y = Setup.country();
    due.is("another object has its own", y.status(16), 0);
  }

  private static void constants() {
    due.is("NONE", ComplaintBooks.NONE, -1);
  }
}

/** Promises 1 to 6. */
public final class PlacesTest {
  private static final Due due = new Due("PlacesTest");

  public static void main(String[] args) {
    newObject();
    place();
    placesAreFew();
    parish();
    parishesAreFew();
    path();
    days();
    about();
    aboutWhatChanges();
    due.close();
  }

  private static void newObject() {
    ComplaintBooks x = new ComplaintBooks();
    due.is("new: PLACES", x.status(0), 1);
    due.is("new: NOW", x.status(5), 0);
    due.is("new: LEVEL of THE TOP", x.about(0, 0), 3);
    due.is("new: under", x.about(0, 1), -1);
    due.is("new: ORDER", x.about(0, 2), -1);
    due.is("new: HEARTHS", x.about(0, 3), 0);
    due.is("new: ASKS", x.about(0, 4), 0);
    due.is("new: MADE", x.about(0, 5), 0);
    due.is("new: CHOICE", x.about(0, 6), -1);
    due.is("new: TORN", x.about(0, 7), -1);
    due.is("new: no other PLACE", x.about(1, 0), -1);
    due.is("new: FAULT", x.fault(), -1);
    due.is("new: bestOf", x.bestOf(0), -1);
    for (int s = 0; s < 8; s++) {
      due.is("new: SHELF", x.holds(s), -1);
    }
    for (int i = 1; i <= 4; i++) {
      due.is("new: how many", x.status(i), 0);
    }
    for (int i = 6; i <= 17; i++) {
      due.is("new: how many", x.status(i), 0);
    }
  }

  private static void place() {
    ComplaintBooks x = new ComplaintBooks();
    due.is("place(0, 0)", x.place(0, 0), 1);
    due.is("place(0, 99)", x.place(0, 99), 2);
    due.is("place(1, 5)", x.place(1, 5), 3);
    due.is("LEVEL of a SHIRE", x.about(1, 0), 2);
    due.is("LEVEL of a DISTRICT", x.about(3, 0), 1);
    due.is("what it is under", x.about(3, 1), 1);
    due.is("DAYS -1", x.place(0, -1), -6);
    due.is("DAYS 100", x.place(0, 100), -6);
    due.is("under a DISTRICT", x.place(3, 5), -6);
    x.parish(3, 1, 1, 1);
    due.is("under a PARISH", x.place(4, 5), -6);
    due.is("no PLACE", x.place(5, 5), -1);
    due.is("no PLACE and DAYS", x.place(-1, 500), -1);
    due.is("PLACES", x.status(0), 5);
    due.is("-6", Setup.refusals(x, -6), 4);
    due.is("-1", Setup.refusals(x, -1), 2);
  }

  private static void placesAreFew() {
    ComplaintBooks x = new ComplaintBooks();
    for (int i = 1; i < 24; i++) {
      due.is("place " + i, x.place(0, i), i);
    }
    due.is("a 25th", x.place(0, 1), -7);
    due.is("a 25th, DAYS wrong", x.place(0, 100), -6);
    due.is("a 25th, under none", x.place(24, 1), -1);
    due.is("PLACES", x.status(0), 24);
  }

  private static void parish() {
    ComplaintBooks x = new ComplaintBooks();
    x.place(0, 1);
    x.place(1, 1);
    due.is("parish, the least", x.parish(2, 0, 0, 1), 3);
    due.is("parish, the greatest", x.parish(2, 99, 2, 999), 4);
    due.is("LEVEL", x.about(4, 0), 0);
    due.is("under", x.about(4, 1), 2);
    due.is("ORDER", x.about(4, 2), 2);
    due.is("HEARTHS", x.about(4, 3), 999);
    due.is("DAYS -1", x.parish(2, -1, 0, 1), -6);
    due.is("DAYS 100", x.parish(2, 100, 0, 1), -6);
    due.is("ORDER -1", x.parish(2, 0, -1, 1), -6);
    due.is("ORDER 3", x.parish(2, 0, 3, 1), -6);
    due.is("HEARTHS 0", x.parish(2, 0, 0, 0), -6);
    due.is("HEARTHS 1000", x.parish(2, 0, 0, 1000), -6);
    due.is("under THE TOP", x.parish(0, 0, 0, 1), -6);
    due.is("under a SHIRE", x.parish(1, 0, 0, 1), -6);
    due.is("under a PARISH", x.parish(3, 0, 0, 1), -6);
    due.is("no PLACE", x.parish(5, 100, 0, 1), -1);
    due.is("no PLACE", x.parish(-1, 0, 0, 1), -1);
    due.is("-6", Setup.refusals(x, -6), 9);
  }

  private static void parishesAreFew() {
    ComplaintBooks x = new ComplaintBooks();
    x.place(0, 1);
    x.place(1, 1);
    for (int i = 3; i < 24; i++) {
      due.is("parish " + i, x.parish(2, 1, 0, 10), i);
    }
    due.is("a 25th PLACE", x.parish(2, 1, 0, 10), -7);
    due.is("a 25th PLACE, HEARTHS wrong", x.parish(2, 1, 0, 0), -6);
    due.is("HEARTHS of all", x.about(0, 3), 210);
  }

  private static void path() {
    ComplaintBooks x = Setup.country();
    due.is("to itself", x.path(4, 4), 0);
    due.is("THE TOP to itself", x.path(0, 0), 0);
    due.is("up one", x.path(4, 2), 1);
    due.is("down one", x.path(2, 4), 1);
    due.is("up to THE TOP", x.path(7, 0), 12);
    due.is("down from THE TOP", x.path(0, 7), 12);
    due.is("two PARISHES of one DISTRICT", x.path(4, 5), 3);
    due.is("over two DISTRICTS", x.path(5, 7), 13);
    due.is("from a DISTRICT to another's PARISH", x.path(2, 6), 7);
    x.place(0, 7);
    x.place(8, 10);
    due.is("over two SHIRES", x.path(4, 9), 23);
    due.is("a SHIRE to another one", x.path(1, 8), 10);
    due.is("no PLACE", x.path(10, 0), -1);
    due.is("no PLACE", x.path(0, 10), -1);
    due.is("no PLACE", x.path(-1, -1), -1);
    due.is("that is no REFUSAL", Setup.refusals(x, -1), 0);
  }

  private static void days() {
    ComplaintBooks x = new ComplaintBooks();
    due.is("days(1)", x.days(1), 1);
    due.is("days(0)", x.days(0), -6);
    due.is("days(-1)", x.days(-1), -6);
    due.is("days(401)", x.days(401), -6);
    due.is("days(greatest int)", x.days(Integer.MAX_VALUE), -6);
    for (int i = 1; i < 10; i++) {
      due.is("days(400)", x.days(400), 400 * i + 1);
    }
    due.is("over 4000", x.days(400), -6);
    due.is("to 4000", x.days(399), 4000);
    due.is("over 4000 by one", x.days(1), -6);
    due.is("NOW", x.status(5), 4000);
    due.is("-6", Setup.refusals(x, -6), 6);
  }

  private static void about() {
    ComplaintBooks x = Setup.country();
    due.is("HEARTHS of THE TOP", x.about(0, 3), 170);
    due.is("HEARTHS of a SHIRE", x.about(1, 3), 170);
    due.is("HEARTHS of a DISTRICT", x.about(2, 3), 80);
    due.is("HEARTHS of a PARISH", x.about(6, 3), 70);
    due.is("ORDER of a PARISH", x.about(6, 2), 2);
    due.is("ORDER of a DISTRICT", x.about(2, 2), -1);
    due.is("ORDER of a SHIRE", x.about(1, 2), -1);
    due.is("another what", x.about(0, 8), -1);
    due.is("another what", x.about(0, -1), -1);
    due.is("no PLACE", x.about(8, 0), -1);
    due.is("no PLACE", x.about(-1, 3), -1);
    due.is("no REFUSAL", Setup.refusals(x, -1), 0);
  }

  private static void aboutWhatChanges() {
    ComplaintBooks x = Setup.country();
    Setup.ask(x, 4, 1, 1, 1);
    Setup.ask(x, 4, 2, 1, 1);
    Setup.ask(x, 4, 3, 1, 1);
    x.withdraw(1);
    due.is("ASKS, a WITHDRAWN one too", x.about(4, 4), 3);
    x.tear(4, 2);
    due.is("ASKS, GAPS too", x.about(4, 4), 3);
    due.is("TORN from", x.about(4, 7), 2);
    due.is("another one is not", x.about(5, 7), -1);
    due.is("not MADE", x.about(2, 5), 0);
    x.make(2);
    due.is("MADE", x.about(2, 5), 1);
    due.is("ASKS", x.about(2, 4), 1);
    due.is("another one isn't MADE", x.about(3, 5), 0);
    x.person(5, 1);
    x.person(5, 2);
    Setup.row(x, 0, 0, 1, 1);
    x.choose(5, 0);
    due.is("CHOICE", x.about(5, 6), 1);
    due.is("no CHOICE", x.about(4, 6), -1);
  }
}

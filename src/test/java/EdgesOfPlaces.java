import java.util.function.Supplier;

/** Of PLACES and DAYS: the first part of the terms, promises 1 to 6. */
final class EdgesOfPlaces extends Edges {
  private static final int LEAST = Integer.MIN_VALUE;
  private static final int GREATEST = Integer.MAX_VALUE;

  /** 24 PLACES: SHIRE 1, DISTRICT 2, PARISH 3, SHIRES 4 to 23. */
  static final Supplier<Books> FULL = Books.bare(x -> {
    x.place(0, 1);
    x.place(1, 1);
    x.parish(2, 1, 0, 1);
    for (int i = 4; i < 24; i++) {
      x.place(0, 1);
    }
  });

  private final Supplier<Books> country = Books.country(x -> { });

  EdgesOfPlaces(Sentences document) {
    super(document);
  }

  @Override
  void run() {
    termsOfPlaces();
    termsOfNumbers();
    newObject();
    placeIs();
    placeIsRefused();
    parishIs();
    parishIsRefused();
    path();
    days();
    aboutOne();
    aboutItsBook();
    aboutNone();
  }

  private void termsOfPlaces() {
    terms(1);
    edge("PLACES have numbers, 24 at most: 0 is THE TOP (LEVEL 3)", () -> {
      Books x = new Books();
      is("LEVEL of 0", x.about(0, 0), 3);
      for (int i = 1; i < 24; i++) {
        is("PLACE " + i, x.place(0, 0), i);
      }
      is("a 25th", x.place(0, 0), -7);
      is("how many", x.status(0), 24);
      is("the last", x.about(23, 0), 2);
      is("none beyond", x.about(24, 0), -1);
      Books y = FULL.get();
      is("a 25th, a PARISH", y.parish(2, 0, 0, 1), -7);
      is("how many", y.status(0), 24);
    });
    edge("SHIRES (LEVEL 2) are under THE TOP, DISTRICTS (1) under SHIRES, PARISHES (0) under DISTRICTS", () -> {
      Books x = Books.country();
      is("a SHIRE's LEVEL", x.about(1, 0), 2);
      is("a SHIRE is under", x.about(1, 1), 0);
      is("a DISTRICT's LEVEL", x.about(3, 0), 1);
      is("a DISTRICT is under", x.about(3, 1), 1);
      is("a PARISH's LEVEL", x.about(7, 0), 0);
      is("a PARISH is under", x.about(7, 1), 3);
      is("nothing under a PARISH", x.place(7, 0), -6);
      is("nothing under a PARISH", x.parish(7, 0, 0, 1), -6);
    });
    edge("each but THE TOP has a way of DAYS (0 to 99) to the one it is under", () -> {
      Books x = new Books();
      x.place(0, 0);
      x.place(1, 99);
      x.parish(2, 0, 0, 1);
      x.parish(2, 99, 0, 1);
      is("0", x.path(1, 0), 0);
      is("99", x.path(2, 1), 99);
      is("a PARISH's 0", x.path(3, 2), 0);
      is("a PARISH's 99", x.path(4, 2), 99);
      is("100", x.place(0, 100), -6);
      is("a PARISH's 100", x.parish(2, 100, 0, 1), -6);
      is("-1", x.place(0, -1), -6);
      is("a PARISH's -1", x.parish(2, -1, 0, 1), -6);
    });
    edge("PATH from a PLACE to another one: the sum of ways up and down between them", () -> {
      Books x = Books.country();
      is("up", x.path(4, 0), 6);
      is("down", x.path(0, 4), 6);
      is("up and down in a DISTRICT", x.path(4, 5), 3);
      is("up and down in a SHIRE", x.path(5, 6), 9);
      is("a DISTRICT and another's PARISH", x.path(3, 4), 7);
      x.place(0, 99);
      is("up and down over THE TOP", x.path(8, 7), 111);
    });
  }

  private void termsOfNumbers() {
    edge("A PARISH has an ORDER 0 to 2, and HEARTHS (1 to 999)", () -> {
      Books x = Books.country();
      is("ORDER 0, 1 HEARTH", x.parish(2, 0, 0, 1), 8);
      is("ORDER 2, 999 HEARTHS", x.parish(2, 0, 2, 999), 9);
      is("ORDER", x.about(8, 2), 0);
      is("ORDER", x.about(9, 2), 2);
      is("HEARTHS", x.about(8, 3), 1);
      is("HEARTHS", x.about(9, 3), 999);
      is("ORDER -1", x.parish(2, 0, -1, 1), -6);
      is("ORDER 3", x.parish(2, 0, 3, 1), -6);
      is("0 HEARTHS", x.parish(2, 0, 0, 0), -6);
      is("1,000 HEARTHS", x.parish(2, 0, 0, 1000), -6);
    });
    edge("NOW is a DAY, 0 at first, 4,000 at most", () -> {
      Books x = new Books();
      is("at first", x.status(5), 0);
      for (int i = 1; i <= 10; i++) {
        is("days(400)", x.days(400), 400 * i);
      }
      is("4,001", x.days(1), -6);
      is("NOW", x.status(5), 4000);
    });
  }

  private void newObject() {
    promise(1);
    edge("THE TOP alone", () -> {
      Books other = Books.country();
      other.days(3);
      Books x = new Books();
      is("PLACES", x.status(0), 1);
      is("THE TOP", x.about(0, 0), 3);
      is("no SHIRE", x.about(1, 0), -1);
      is("ASKS in its BOOK", x.about(0, 4), 0);
      for (int what = 1; what <= 17; what++) {
        is("how many of " + what, x.status(what), 0);
      }
      is("latest FAULT", x.fault(), -1);
      is("latest BEST BOOK", x.bestOf(0), -1);
    });
    edge("NOW is 0", () -> is("NOW", new Books().status(5), 0));
  }

  private void placeIs() {
    promise(2);
    edge("A new SHIRE (under THE TOP), or DISTRICT (under a SHIRE): its number", () -> {
      Books x = new Books();
      is("the first SHIRE", x.place(0, 7), 1);
      is("its DISTRICT", x.place(1, 8), 2);
      is("another SHIRE", x.place(0, 9), 3);
      is("its DISTRICT", x.place(3, 0), 4);
      is("LEVEL", x.about(3, 0), 2);
      is("LEVEL", x.about(4, 0), 1);
      is("under", x.about(4, 1), 3);
      is("no ORDER", x.about(4, 2), -1);
      is("no HEARTHS", x.about(4, 3), 0);
      is("its way", x.path(2, 0), 15);
    });
    edge("-7", () -> {
      Supplier<Books> room = Books.bare(x -> {
        for (int i = 1; i < 23; i++) {
          x.place(0, 0);
        }
      });
      is("the last one", room.get().place(0, 0), 23);
      is("the last one, a DISTRICT", room.get().place(22, 0), 23);
      refused("a SHIRE", -7, FULL, x -> x.place(0, 0));
      refused("a DISTRICT", -7, FULL, x -> x.place(1, 99));
    });
  }

  private void placeIsRefused() {
    edge("-1", () -> {
      refused("one beyond", -1, country, x -> x.place(8, 0));
      refused("-1", -1, country, x -> x.place(-1, 0));
      refused("the least", -1, country, x -> x.place(LEAST, 0));
      refused("the greatest", -1, country, x -> x.place(GREATEST, 0));
      refused("a 25th", -1, FULL, x -> x.place(24, 0));
    });
    edge("-6 DAYS, it is under a DISTRICT or PARISH", () -> {
      is("0 DAYS", Books.country().place(0, 0), 8);
      is("99 DAYS", Books.country().place(1, 99), 8);
      refused("-1 DAYS", -6, country, x -> x.place(0, -1));
      refused("100 DAYS", -6, country, x -> x.place(1, 100));
      refused("the least DAYS", -6, country, x -> x.place(0, LEAST));
      refused("the greatest DAYS", -6, country, x -> x.place(0, GREATEST));
      refused("under a DISTRICT", -6, country, x -> x.place(2, 0));
      refused("under a PARISH", -6, country, x -> x.place(4, 0));
    });
  }

  private void parishIs() {
    promise(3);
    edge("A new PARISH under a DISTRICT: its number", () -> {
      Books x = Books.country();
      is("its number", x.parish(3, 99, 2, 999), 8);
      is("LEVEL", x.about(8, 0), 0);
      is("under", x.about(8, 1), 3);
      is("ORDER", x.about(8, 2), 2);
      is("HEARTHS", x.about(8, 3), 999);
      is("its way", x.path(8, 3), 99);
      is("HEARTHS of its DISTRICT", x.about(3, 3), 1089);
      is("the next one", x.parish(3, 0, 0, 1), 9);
    });
    edge("-7", () -> {
      Supplier<Books> room = Books.country(x -> {
        for (int i = 8; i < 23; i++) {
          x.parish(2, 0, 0, 1);
        }
      });
      is("the last one", room.get().parish(2, 0, 0, 1), 23);
      refused("one more", -7, FULL, x -> x.parish(2, 0, 0, 1));
    });
  }

  private void parishIsRefused() {
    edge("-1", () -> {
      refused("one beyond", -1, country, x -> x.parish(8, 0, 0, 1));
      refused("-1", -1, country, x -> x.parish(-1, 0, 0, 1));
      refused("the least", -1, country, x -> x.parish(LEAST, 0, 0, 1));
      refused("the greatest", -1, country, x -> x.parish(GREATEST, 0, 0, 1));
    });
    edge("-6 a number, it is under another one", () -> {
      refused("-1 DAYS", -6, country, x -> x.parish(2, -1, 0, 1));
      refused("100 DAYS", -6, country, x -> x.parish(2, 100, 0, 1));
      refused("the greatest DAYS", -6, country, x -> x.parish(2, GREATEST, 0, 1));
      refused("ORDER -1", -6, country, x -> x.parish(2, 0, -1, 1));
      refused("ORDER 3", -6, country, x -> x.parish(2, 0, 3, 1));
      refused("the least ORDER", -6, country, x -> x.parish(2, 0, LEAST, 1));
      refused("0 HEARTHS", -6, country, x -> x.parish(2, 0, 0, 0));
      refused("-1 HEARTHS", -6, country, x -> x.parish(2, 0, 0, -1));
      refused("1,000 HEARTHS", -6, country, x -> x.parish(2, 0, 0, 1000));
      refused("the greatest HEARTHS", -6, country, x -> x.parish(2, 0, 0, GREATEST));
      refused("under THE TOP", -6, country, x -> x.parish(0, 0, 0, 1));
      refused("under a SHIRE", -6, country, x -> x.parish(1, 0, 0, 1));
      refused("under a PARISH", -6, country, x -> x.parish(4, 0, 0, 1));
    });
  }

  private void path() {
    promise(4);
    edge("PATH", () -> {
      Books x = Books.country();
      for (int p = 0; p < 8; p++) {
        is("to itself", x.path(p, p), 0);
      }
      is("between DISTRICTS", x.path(2, 3), 6);
      is("the other way", x.path(3, 2), 6);
      Books y = new Books();
      for (int side = 0; side < 2; side++) {
        int shire = y.place(0, 99);
        int district = y.place(shire, 99);
        y.parish(district, 99, 0, 1);
      }
      is("the longest", y.path(3, 6), 594);
      onlyTells("between PARISHES", 13, country, z -> z.path(5, 7));
    });
    edge("NONE: no such PLACES", () -> {
      onlyTells("from -1", -1, country, x -> x.path(-1, 0));
      onlyTells("to -1", -1, country, x -> x.path(0, -1));
      onlyTells("from one beyond", -1, country, x -> x.path(8, 0));
      onlyTells("to one beyond", -1, country, x -> x.path(0, 8));
      onlyTells("from the least", -1, country, x -> x.path(LEAST, 0));
      onlyTells("to the greatest", -1, country, x -> x.path(0, GREATEST));
      onlyTells("a like one", -1, country, x -> x.path(9, 9));
    });
  }

  private void days() {
    promise(5);
    edge("NOW goes on by n DAYS (1 to 400; 4,000 at most in all): NOW", () -> {
      Books x = new Books();
      is("1", x.days(1), 1);
      is("400", x.days(400), 401);
      is("NOW", x.status(5), 401);
      for (int i = 2; i < 10; i++) {
        x.days(400);
      }
      is("to 4,000", x.days(399), 4000);
    });
    edge("-6", () -> {
      refused("0", -6, country, x -> x.days(0));
      refused("-1", -6, country, x -> x.days(-1));
      refused("401", -6, country, x -> x.days(401));
      refused("the least", -6, country, x -> x.days(LEAST));
      refused("the greatest", -6, country, x -> x.days(GREATEST));
      Supplier<Books> late = Books.bare(x -> {
        for (int i = 0; i < 9; i++) {
          x.days(400);
        }
        x.days(399);
      });
      is("the last DAY", late.get().days(1), 4000);
      refused("one beyond", -6, late, x -> x.days(2));
      refused("400 on", -6, late, x -> x.days(400));
      Supplier<Books> over = Books.bare(x -> {
        for (int i = 0; i < 10; i++) {
          x.days(400);
        }
      });
      refused("beyond 4,000", -6, over, x -> x.days(1));
    });
  }

  private void aboutOne() {
    promise(6);
    edge("Of a PLACE: 0 LEVEL", () -> {
      Books x = Books.country();
      int[] levels = {3, 2, 1, 1, 0, 0, 0, 0};
      for (int p = 0; p < 8; p++) {
        is("LEVEL of " + p, x.about(p, 0), levels[p]);
      }
      onlyTells("a DISTRICT's", 1, country, y -> y.about(3, 0));
    });
    edge("1 what it is under (NONE)", () -> {
      Books x = Books.country();
      int[] above = {-1, 0, 1, 1, 2, 2, 3, 3};
      for (int p = 0; p < 8; p++) {
        is("above " + p, x.about(p, 1), above[p]);
      }
    });
    edge("2 ORDER", () -> {
      Books x = Books.country();
      is("0", x.about(4, 2), 0);
      is("1", x.about(5, 2), 1);
      is("2", x.about(6, 2), 2);
    });
    edge("3 HEARTHS (of all PARISHES below, or its own)", () -> {
      Books x = Books.country();
      int[] hearths = {170, 170, 80, 90, 50, 30, 70, 20};
      for (int p = 0; p < 8; p++) {
        is("HEARTHS of " + p, x.about(p, 3), hearths[p]);
      }
      x.place(0, 1);
      x.place(8, 1);
      is("of a SHIRE without PARISHES", x.about(8, 3), 0);
      x.parish(9, 0, 0, 999);
      is("of that SHIRE", x.about(8, 3), 999);
      is("of another", x.about(1, 3), 170);
      is("of all", x.about(0, 3), 1169);
    });
  }

  private void aboutItsBook() {
    edge("4 how many ASKS its BOOK has", () -> {
      Books x = Books.country();
      is("none", x.about(4, 4), 0);
      x.writes(4, 0, 0, 0);
      x.writes(4, 0, 1, 0);
      x.writes(4, 0, 2, 0);
      x.withdraw(0);
      x.tear(4, 2);
      is("those WITHDRAWN and GAPS too", x.about(4, 4), 3);
      is("of a DISTRICT, not MADE", x.about(2, 4), 0);
      x.make(2);
      is("of a DISTRICT", x.about(2, 4), 1);
      is("of another", x.about(3, 4), 0);
    });
    edge("5 1 if its BOOK was MADE", () -> {
      Books x = Books.country();
      x.make(2);
      x.make(0);
      int[] made = {1, 0, 1, 0, 0, 0, 0, 0};
      for (int p = 0; p < 8; p++) {
        is("MADE, " + p, x.about(p, 5), made[p]);
      }
    });
    edge("6 its CHOICE (NONE)", () -> {
      Books x = Books.country();
      x.person(4, 0);
      is("none yet", x.about(4, 6), -1);
      x.chooses(4, 0);
      is("PERSON 0", x.about(4, 6), 0);
      is("none above", x.about(2, 6), -1);
    });
    edge("7 from which ASK it is TORN (NONE)", () -> {
      Books x = Books.country();
      x.writes(4, 0, 0, 0);
      x.writes(5, 0, 0, 0);
      x.tear(4, 0);
      x.tear(5, 1);
      is("from the first", x.about(4, 7), 0);
      is("from the end", x.about(5, 7), 1);
      is("not TORN", x.about(6, 7), -1);
      is("a DISTRICT", x.about(2, 7), -1);
    });
  }

  private void aboutNone() {
    edge("NONE: no such one, another what; ORDER of others", () -> {
      onlyTells("-1", -1, country, x -> x.about(-1, 0));
      onlyTells("one beyond", -1, country, x -> x.about(8, 3));
      onlyTells("the least", -1, country, x -> x.about(LEAST, 0));
      onlyTells("the greatest", -1, country, x -> x.about(GREATEST, 0));
      onlyTells("what -1", -1, country, x -> x.about(0, -1));
      onlyTells("what 8", -1, country, x -> x.about(4, 8));
      onlyTells("the least what", -1, country, x -> x.about(4, LEAST));
      onlyTells("the greatest what", -1, country, x -> x.about(4, GREATEST));
      onlyTells("ORDER of THE TOP", -1, country, x -> x.about(0, 2));
      onlyTells("ORDER of a SHIRE", -1, country, x -> x.about(1, 2));
      onlyTells("ORDER of a DISTRICT", -1, country, x -> x.about(2, 2));
    });
  }
}

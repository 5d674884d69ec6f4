import java.util.function.Supplier;

/** Of what is known of an ASK, and where it went: promises 19 to 26. */
final class EdgesOfTracing extends Edges {
  private static final int LEAST = Integer.MIN_VALUE;
  private static final int GREATEST = Integer.MAX_VALUE;
  private static final int[] NO_ASKS = {-1, 12, LEAST, GREATEST};

  /**
   * On DAY 9 PARISHES write ASKS 0 to 4: 4: (1, 0) MUCH 40; 5: (1, 0) 60; 6: (1, 0) 20; 7: (2, 1) 10;
   * 5: (2, 1) 30. On DAY 10 the BOOKS are MADE: 5 (of 0, 1), 6 (of 4); 7 (of 2), 8 (of 3);
   * 9 (of 5, 7), 10 (of 6, 8); 11 (of 9), and 10 is DROPPED at THE TOP.
   */
  static final Supplier<Books> TRACED = Books.country(x -> {
    x.days(9);
    x.writes(4, 1, 0, 40);
    x.writes(5, 1, 0, 60);
    x.writes(6, 1, 0, 20);
    x.writes(7, 2, 1, 10);
    x.writes(5, 2, 1, 30);
    x.law(3, 0, "k:w=1;j:l");
    x.days(1);
    x.make(2);
    x.make(3);
    x.make(1);
    x.make(0);
  });

  EdgesOfTracing(Sentences document) {
    super(document);
  }

  @Override
  void run() {
    askNumbers();
    askBits();
    askWays();
    askNone();
    likeness();
    chance();
    less();
    part();
    endAndLost();
    book();
  }

  private void isOfAll(String what, int field, int... wanted) {
    Books x = TRACED.get();
    for (int ask = 0; ask < wanted.length; ask++) {
      is(what + " of " + ask, x.ask(ask, field), wanted[ask]);
    }
  }

  private void askNumbers() {
    promise(19);
    edge("Of an ASK: 0 KIND", () -> {
      isOfAll("KIND", 0, 0, 0, 0, 0, 0, 2, 2, 2, 2, 2, 2, 2);
      Books x = EdgesOfShelves.KINDS.get();
      is("BORROWED", x.ask(1, 0), 1);
      is("BOUND", x.ask(6, 0), 3);
    });
    edge("1 PLACE", () -> isOfAll("PLACE", 1, 4, 5, 6, 7, 5, 2, 2, 3, 3, 1, 1, 0));
    edge("2 WHAT", () -> {
      isOfAll("WHAT", 2, 1, 1, 1, 2, 2, 1, 2, 1, 2, 1, 2, 1);
      Books x = Books.country();
      is("the least", x.ask(x.writes(4, 0, 0, 0), 2), 0);
      is("the greatest", x.ask(x.writes(4, 15, 0, 0), 2), 15);
    });
    edge("3 WHOM", () -> {
      isOfAll("WHOM", 3, 0, 0, 0, 1, 1, 0, 1, 0, 1, 0, 1, 0);
      Books x = Books.country();
      is("the greatest", x.ask(x.writes(4, 0, 7, 0), 3), 7);
    });
    edge("4 MUCH", () -> {
      isOfAll("MUCH", 4, 40, 60, 20, 10, 30, 60, 30, 20, 10, 60, 30, 60);
      Books x = Books.country();
      is("the least", x.ask(x.writes(4, 0, 0, 0), 4), 0);
      is("the greatest", x.ask(x.writes(4, 1, 0, 99), 4), 99);
      onlyTells("of a SHIRE's", 60, TRACED, y -> y.ask(9, 4));
    });
    edge("5 the DAY on which it was WRITTEN (or MADE)", () -> {
      isOfAll("DAY", 5, 9, 9, 9, 9, 9, 10, 10, 10, 10, 10, 10, 10);
      Books x = Books.country();
      is("DAY 0", x.ask(x.writes(4, 0, 0, 0), 5), 0);
      for (int i = 0; i < 10; i++) {
        x.days(400);
      }
      is("the last DAY", x.ask(x.writes(4, 1, 0, 0), 5), 4000);
    });
  }

  private void askBits() {
    edge("6 1 if LATE", () -> {
      isOfAll("LATE", 6, 0, 0, 0, 0, 0, 0, 0, 0, 0, 0, 0, 0);
      Books x = TRACED.get();
      is("LATE", x.ask(x.writes(4, 0, 0, 0), 6), 1);
    });
    edge("7 1 if WITHDRAWN", () -> {
      Books x = TRACED.get();
      is("not ahead", x.ask(1, 7), 0);
      x.withdraw(1);
      is("WITHDRAWN", x.ask(1, 7), 1);
      is("another isn't", x.ask(0, 7), 0);
      is("nor the one it went into", x.ask(5, 7), 0);
      Books y = Books.country();
      y.writes(4, 0, 0, 0);
      y.withdraw(0);
      is("on DAY 0", y.ask(0, 7), 1);
    });
    edge("8 1 if a GAP", () -> {
      Books x = Books.country();
      x.writes(4, 0, 0, 0);
      x.writes(4, 1, 0, 0);
      x.withdraw(1);
      x.tear(4, 1);
      is("not a GAP", x.ask(0, 8), 0);
      is("a GAP", x.ask(1, 8), 1);
      is("WITHDRAWN too", x.ask(1, 7), 1);
    });
  }

  private void askWays() {
    edge("9 the ASK it went into (NONE)", () -> isOfAll("into", 9, 5, 5, 7, 8, 6, 9, 10, 9, 10, 11, -1, -1));
    edge("10 the PLACE where it was DROPPED (NONE)", () -> {
      isOfAll("DROPPED", 10, -1, -1, -1, -1, -1, -1, -1, -1, -1, -1, 0, -1);
      Books x = Books.country();
      x.writes(4, 0, 0, 0);
      x.writes(5, 0, 0, 0);
      x.writes(6, 0, 0, 0);
      x.law(1, 0, "k:n>1;j:x");
      x.law(2, 0, "k:n>1;j:x");
      x.make(2);
      x.make(3);
      x.make(1);
      is("kept", x.ask(0, 10), -1);
      is("at the DISTRICT", x.ask(2, 10), 3);
      is("at the SHIRE", x.ask(3, 10), 1);
    });
    edge("11 HEARTHS behind it", () -> isOfAll("HEARTHS", 11, 50, 30, 70, 20, 30, 80, 30, 70, 20, 150, 50, 150));
    edge("12 its MODEL (NONE)", () -> {
      isOfAll("MODEL", 12, -1, -1, -1, -1, -1, -1, -1, -1, -1, -1, -1, -1);
      Books x = EdgesOfShelves.KINDS.get();
      is("MODEL 0", x.ask(1, 12), 0);
      is("not BORROWED", x.ask(0, 12), -1);
    });
    edge("13 1 if YIELDED", () -> {
      Books x = EdgesOfShelves.KINDS.get();
      is("not yet", x.ask(5, 13), 0);
      x.give(5);
      is("YIELDED", x.ask(5, 13), 1);
      is("another isn't", x.ask(6, 13), 0);
    });
  }

  private void askNone() {
    edge("NONE: no such one, another what", () -> {
      for (int ask : NO_ASKS) {
        onlyTells("ASK " + ask, -1, TRACED, x -> x.ask(ask, 4));
      }
      onlyTells("of none", -1, Books.country(x -> { }), x -> x.ask(0, 0));
      for (int what : new int[] {-1, 14, LEAST, GREATEST}) {
        onlyTells("what " + what, -1, TRACED, x -> x.ask(0, what));
      }
    });
  }

  /** Its ASKS: 0 BORROWED from MODEL 0, 1 with no WORDS, 2 of a DISTRICT; MODEL 1 has no WORDS. */
  private static final Supplier<Books> WORDED = Books.country(x -> {
    x.put(0, 0, 1, 2, 3);
    x.model(1, 0, 4);
    x.row(1, 0, 0);
    x.model(1, 1, 4);
    x.write(4, 1, 0, 0, 0);
    x.write(4, 2, 0, 0, 1);
    x.make(2);
  });

  private void likeness() {
    promise(20);
    edge("LIKENESS of an ASK of a PARISH and a MODEL", () -> {
      Books x = WORDED.get();
      is("all", x.likeness(0, 0), 3);
      is("a MODEL of no WORDS", x.likeness(0, 1), 0);
      is("an ASK of a ROW of none", x.likeness(1, 0), 0);
      is("none and none", x.likeness(1, 1), 0);
      is("of another WHAT, not there yet", x.likeness(x.write(7, 9, 0, 0, 0), 0), 3);
      x.withdraw(0);
      is("WITHDRAWN", x.likeness(0, 0), 3);
      onlyTells("all", 3, WORDED, y -> y.likeness(0, 0));
    });
    edge("NONE: no such ones, no WORDS", () -> {
      for (int n : new int[] {-1, 4, LEAST, GREATEST}) {
        onlyTells("ASK " + n, -1, WORDED, x -> x.likeness(n, 0));
      }
      for (int n : new int[] {-1, 2, LEAST, GREATEST}) {
        onlyTells("MODEL " + n, -1, WORDED, x -> x.likeness(0, n));
      }
      onlyTells("of a DISTRICT", -1, WORDED, x -> x.likeness(2, 0));
      onlyTells("of a DISTRICT", -1, WORDED, x -> x.likeness(3, 1));
    });
  }

  private void chance() {
    promise(21);
    edge("CHANCE of a BORROWED ASK: how many (of false), of how many (of true)", () -> {
      Books x = WORDED.get();
      is("of none", x.chance(0, true), 0);
      is("none", x.chance(0, false), 0);
      x.write(5, 1, 0, 0, 1);
      x.write(6, 1, 0, 0, 0);
      is("how many", x.chance(0, false), 1);
      is("of how many", x.chance(0, true), 2);
      onlyTells("of none", 0, WORDED, y -> y.chance(0, true));
    });
    edge("NONE: no such one, not BORROWED", () -> {
      for (int n : new int[] {-1, 4, LEAST, GREATEST}) {
        onlyTells("ASK " + n, -1, WORDED, x -> x.chance(n, false));
        onlyTells("ASK " + n, -1, WORDED, x -> x.chance(n, true));
      }
      onlyTells("an ASK of a PARISH", -1, WORDED, x -> x.chance(1, true));
      onlyTells("MERGED", -1, WORDED, x -> x.chance(2, false));
    });
  }

  private void less() {
    promise(22);
    edge("LESS", () -> {
      Books x = TRACED.get();
      int[] less = {-20, 0, 0, 0, 0, 0, 0, -40, -20, 0};
      for (int ask = 0; ask < less.length; ask++) {
        is("of " + ask, x.less(ask), less[ask]);
      }
      for (int join = 0; join < 2; join++) {
        Books y = Books.country();
        y.writes(4, 0, 0, 0);
        y.writes(5, 0, 0, 99);
        y.law(1, 0, join == 0 ? "k:n>0;j:l" : "k:n>0;j:x");
        y.make(2);
        is("the greatest, or none", y.less(1), join == 0 ? 99 : 0);
        is("none, or the least", y.less(0), join == 0 ? 0 : -99);
      }
      onlyTells("below 0", -20, TRACED, y -> y.less(0));
    });
    edge("1,000: no such ASK, it went into none", () -> {
      for (int ask : NO_ASKS) {
        onlyTells("ASK " + ask, 1000, TRACED, x -> x.less(ask));
      }
      onlyTells("DROPPED", 1000, TRACED, x -> x.less(10));
      onlyTells("of THE TOP", 1000, TRACED, x -> x.less(11));
      onlyTells("not MADE yet", 1000, EdgesOfAsks.STARTED, x -> x.less(0));
    });
  }

  private void part() {
    promise(23);
    edge("PART i of a MERGED ASK (by PLACES): its ASK", () -> {
      Books x = TRACED.get();
      is("the first", x.part(5, 0), 0);
      is("the second", x.part(5, 1), 1);
      is("of one", x.part(6, 0), 4);
      is("of a SHIRE", x.part(9, 0), 5);
      is("of a SHIRE", x.part(9, 1), 7);
      is("of THE TOP", x.part(11, 0), 9);
      Books y = Books.country();
      y.writes(5, 0, 0, 0);
      y.writes(4, 0, 0, 0);
      y.make(2);
      is("by PLACES", y.part(2, 0), 1);
      is("by PLACES", y.part(2, 1), 0);
      is("of a BOUND one", EdgesOfShelves.KINDS.get().part(6, 0), 4);
      onlyTells("the second", 7, TRACED, z -> z.part(9, 1));
    });
    edge("NONE: none such", () -> {
      for (int i : new int[] {-1, 2, LEAST, GREATEST}) {
        onlyTells("PART " + i, -1, TRACED, x -> x.part(5, i));
      }
      onlyTells("of one", -1, TRACED, x -> x.part(6, 1));
      onlyTells("of an ASK of a PARISH", -1, TRACED, x -> x.part(0, 0));
      for (int ask : NO_ASKS) {
        onlyTells("of ASK " + ask, -1, TRACED, x -> x.part(ask, 0));
      }
    });
  }

  private void endAndLost() {
    promise(24);
    edge("The ASK at the end of those that an ASK went into, one after the other (itself, if into none)", () -> {
      Books x = TRACED.get();
      int[] ends = {11, 11, 11, 10, 10, 11, 10, 11, 10, 11, 10, 11};
      for (int ask = 0; ask < ends.length; ask++) {
        is("of " + ask, x.end(ask), ends[ask]);
      }
      is("LATE: itself", x.end(x.writes(7, 1, 0, 0)), 12);
      onlyTells("of the first", 11, TRACED, y -> y.end(0));
    });
    edge("NONE: no such one", () -> {
      for (int ask : NO_ASKS) {
        onlyTells("ASK " + ask, -1, TRACED, x -> x.end(ask));
      }
    });
    promise(25);
    edge("The PLACE where that end was DROPPED", () -> {
      Books x = TRACED.get();
      int[] lost = {-1, -1, -1, 0, 0, -1, 0, -1, 0, -1, 0, -1};
      for (int ask = 0; ask < lost.length; ask++) {
        is("of " + ask, x.lost(ask), lost[ask]);
      }
      Books y = Books.country();
      y.writes(6, 0, 0, 0);
      y.law(1, 0, "k:n>1;j:x");
      y.make(3);
      is("at a DISTRICT", y.lost(0), 3);
      onlyTells("at THE TOP", 0, TRACED, z -> z.lost(3));
    });
    edge("NONE: it wasn't, no such one", () -> {
      for (int ask : NO_ASKS) {
        onlyTells("ASK " + ask, -1, TRACED, x -> x.lost(ask));
      }
      onlyTells("it wasn't", -1, TRACED, x -> x.lost(11));
      onlyTells("not MADE yet", -1, EdgesOfAsks.STARTED, x -> x.lost(0));
    });
  }

  private void book() {
    promise(26);
    edge("ASK i of a PLACE's BOOK", () -> {
      Books x = TRACED.get();
      is("the first of a PARISH", x.book(5, 0), 1);
      is("the last of a PARISH", x.book(5, 1), 4);
      is("the first of a DISTRICT", x.book(2, 0), 5);
      is("the last of a DISTRICT", x.book(2, 1), 6);
      is("of a SHIRE", x.book(1, 1), 10);
      is("of THE TOP", x.book(0, 0), 11);
      x.withdraw(1);
      is("a WITHDRAWN one", x.book(5, 0), 1);
      onlyTells("the last of a PARISH", 4, TRACED, y -> y.book(5, 1));
    });
    edge("NONE: none such", () -> {
      for (int i : new int[] {-1, 2, LEAST, GREATEST}) {
        onlyTells("ASK " + i, -1, TRACED, x -> x.book(5, i));
      }
      onlyTells("of THE TOP", -1, TRACED, x -> x.book(0, 1));
      onlyTells("of a BOOK of none", -1, EdgesOfAsks.STARTED, x -> x.book(5, 0));
      onlyTells("not MADE", -1, EdgesOfAsks.STARTED, x -> x.book(2, 0));
      for (int p : new int[] {-1, 8, LEAST, GREATEST}) {
        onlyTells("of PLACE " + p, -1, TRACED, x -> x.book(p, 0));
      }
    });
  }
}

import java.util.function.Supplier;

/** Of who asks, who knew, what else would come to the top, and how many: promises 33, 34, 47, 48. */
final class EdgesOfKnowing extends Edges {
  private static final int LEAST = Integer.MIN_VALUE;
  private static final int GREATEST = Integer.MAX_VALUE;
  private static final int[] NO_WHATS = {-1, 16, LEAST, GREATEST};
  private static final int[] NO_WHOMS = {-1, 8, LEAST, GREATEST};

  /**
   * PARISHES 4, 5 and 7 ask for WHAT 15 of WHOM 7 (ASKS 0, 1, 2); 7 did for WHAT 0 of WHOM 0 (ASK 3),
   * but is TORN from that one on.
   */
  private static final Supplier<Books> ASKING = Books.country(x -> {
    x.writes(4, 15, 7, 0);
    x.writes(5, 15, 7, 0);
    x.writes(7, 15, 7, 0);
    x.writes(7, 0, 0, 0);
    x.tear(7, 1);
  });

  EdgesOfKnowing(Sentences document) {
    super(document);
  }

  @Override
  void run() {
    use();
    count();
    countIsNone();
    askedByWhom();
    askedWhen();
    askedIsNone();
    otherAtAll();
    otherOfEachMode();
    otherIsNone();
    status();
    statusOfRefusals();
  }

  private void use() {
    section("Use");
    edge("An object is used for at most 512 calls after it has been made; what later calls answer is free.", () -> {
      Books x = Books.country();
      x.row(0, 3, 60);
      while (x.callsLeft() > 2) {
        is("set", x.set(0, x.callsLeft() % 60, x.callsLeft()), 1);
      }
      is("the 511th", x.write(4, 0, 0, 0, 0), -6);
      is("the 512th", x.element(0, 3), 3);
      is("no other is asked for", x.callsLeft(), 0);
    });
  }

  private void count() {
    promise(33);
    edge("How many PARISHES of an ORDER (3: of all) ask for a WHAT of a WHOM now (ASKS that aren't WITHDRAWN, nor GAPS)",
        () -> {
          Books x = ASKING.get();
          int[] asking = {2, 1, 0, 3};
          for (int order = 0; order <= 3; order++) {
            is("ORDER " + order, x.count(15, 7, order, false), asking[order]);
          }
          is("a GAP", x.count(0, 0, 3, false), 0);
          is("another WHAT", x.count(14, 7, 3, false), 0);
          is("another WHOM", x.count(15, 6, 3, false), 0);
          x.make(2);
          x.make(1);
          x.make(0);
          is("of PARISHES alone", x.count(15, 7, 3, false), 3);
          x.withdraw(0);
          is("a WITHDRAWN one", x.count(15, 7, 3, false), 2);
          x.writes(4, 15, 7, 1);
          is("again, LATE", x.count(15, 7, 3, false), 3);
          is("of no PARISHES", new Books().count(0, 0, 3, false), 0);
          onlyTells("of all", 3, ASKING, y -> y.count(15, 7, 3, false));
        });
    edge("at most (most true): TORN ones that don't, besides", () -> {
      Books x = ASKING.get();
      is("one that asks, once", x.count(15, 7, 3, true), 3);
      is("one that doesn't", x.count(0, 0, 3, true), 1);
      is("of its ORDER", x.count(0, 0, 0, true), 1);
      is("of others", x.count(0, 0, 1, true) + x.count(0, 0, 2, true), 0);
      x.tear(6, 0);
      is("without ASKS", x.count(15, 7, 3, true), 4);
      x.withdraw(2);
      is("ahead of its GAPS WITHDRAWN", x.count(15, 7, 3, true), 4);
      is("what nobody asks", x.count(3, 3, 3, true), 2);
      is("what nobody asks", x.count(3, 3, 3, false), 0);
    });
  }

  private void countIsNone() {
    edge("NONE: no such ORDER, WHAT, WHOM", () -> {
      for (boolean most : new boolean[] {false, true}) {
        for (int order : new int[] {-1, 4, LEAST, GREATEST}) {
          onlyTells("ORDER " + order, -1, ASKING, x -> x.count(15, 7, order, most));
        }
        for (int what : NO_WHATS) {
          onlyTells("WHAT " + what, -1, ASKING, x -> x.count(what, 7, 3, most));
        }
        for (int whom : NO_WHOMS) {
          onlyTells("WHOM " + whom, -1, ASKING, x -> x.count(15, whom, 3, most));
        }
      }
    });
  }

  /** PARISH 4 (6 DAYS from THE TOP) asks for WHAT 1 of WHOM 2 on DAY 10, withdraws on DAY 20. */
  private static final Supplier<Books> KNOWN = Books.country(x -> {
    x.days(10);
    x.writes(4, 1, 2, 0);
    x.days(10);
    x.withdraw(0);
  });

  private void askedByWhom() {
    promise(34);
    edge("How many PARISHES asked for a WHAT of a WHOM AS OF a, KNOWN at a PLACE on DAY k: some ASK WRITTEN on a or earlier of which word came (DAY and PATH) on k or earlier",
        () -> {
          Books x = KNOWN.get();
          is("a DAY ahead of it", x.asked(1, 2, 9, 0, 4000), 0);
          is("on the DAY", x.asked(1, 2, 10, 0, 4000), 1);
          is("a DAY ahead of the word", x.asked(1, 2, 10, 0, 15), 0);
          is("on the DAY of the word", x.asked(1, 2, 10, 0, 16), 1);
          is("where it was WRITTEN, a DAY ahead", x.asked(1, 2, 10, 4, 9), 0);
          is("where it was WRITTEN", x.asked(1, 2, 10, 4, 10), 1);
          is("at a PARISH", x.asked(1, 2, 10, 7, 21), 0);
          is("at a PARISH", x.asked(1, 2, 10, 7, 22), 1);
          is("another WHAT", x.asked(2, 2, 10, 0, 4000), 0);
          is("another WHOM", x.asked(1, 1, 10, 0, 4000), 0);
          onlyTells("the ends", 1, KNOWN, y -> y.asked(1, 2, GREATEST, 0, 25));
          is("the ends", x.asked(1, 2, LEAST, 0, GREATEST), 0);
          is("the ends", x.asked(1, 2, GREATEST, 0, LEAST), 0);
          x.writes(4, 1, 2, 0);
          x.writes(5, 1, 2, 0);
          x.make(2);
          is("PARISHES, not ASKS, nor a DISTRICT", x.asked(1, 2, 4000, 2, 4000), 2);
        });
  }

  private void askedWhen() {
    edge("and not WITHDRAWN on a or earlier (if word of that came by k)", () -> {
      Books x = KNOWN.get();
      is("AS OF the DAY ahead", x.asked(1, 2, 19, 0, 4000), 1);
      is("AS OF that DAY", x.asked(1, 2, 20, 0, 4000), 0);
      is("a DAY ahead of the word", x.asked(1, 2, 20, 0, 25), 1);
      is("on the DAY of the word", x.asked(1, 2, 20, 0, 26), 0);
      is("where it was, a DAY ahead", x.asked(1, 2, 20, 4, 19), 1);
      is("where it was", x.asked(1, 2, 20, 4, 20), 0);
      is("the ends", x.asked(1, 2, GREATEST, 0, GREATEST), 0);
      x.days(1);
      x.writes(4, 1, 2, 0);
      is("some other ASK", x.asked(1, 2, 21, 4, 21), 1);
      is("not yet", x.asked(1, 2, 20, 4, 21), 0);
      Books y = Books.country();
      y.writes(4, 1, 2, 0);
      y.withdraw(0);
      is("on DAY 0 both", y.asked(1, 2, 0, 4, 0), 0);
      is("on DAY 0 both, of no word", y.asked(1, 2, 0, 0, 5), 0);
    });
    edge("(GAPS count.)", () -> {
      Books x = ASKING.get();
      is("a GAP", x.asked(0, 0, 0, 7, 0), 1);
      is("none now", x.count(0, 0, 3, false), 0);
    });
  }

  private void askedIsNone() {
    edge("NONE: no such PLACE, WHAT, WHOM", () -> {
      for (int p : new int[] {-1, 8, LEAST, GREATEST}) {
        onlyTells("PLACE " + p, -1, KNOWN, x -> x.asked(1, 2, 10, p, 4000));
      }
      for (int what : NO_WHATS) {
        onlyTells("WHAT " + what, -1, KNOWN, x -> x.asked(what, 2, 10, 0, 4000));
      }
      for (int whom : NO_WHOMS) {
        onlyTells("WHOM " + whom, -1, KNOWN, x -> x.asked(1, whom, 10, 0, 4000));
      }
    });
  }

  /** Two PARISHES of ORDERS 0 and 1, 7 HEARTHS each; both ask 17 codes, 0 to 15 and 127; all MADE. */
  private static final Supplier<Books> MANY = Books.bare(x -> {
    x.place(0, 1);
    x.place(1, 1);
    x.parish(2, 1, 0, 7);
    x.parish(2, 1, 1, 7);
    x.writes(3, 15, 7, 0);
    x.writes(4, 15, 7, 0);
    for (int code = 15; code >= 0; code--) {
      x.writes(3, code / 8, code % 8, 0);
      x.writes(4, code / 8, code % 8, 0);
    }
    x.make(2);
    x.make(1);
    x.make(0);
  });

  private void otherAtAll() {
    promise(47);
    edge("What by other RULES would come to the top: 16 groups of each mode at most, code 8 times WHAT and WHOM, by codes, the i-th",
        () -> {
          for (int mode = 0; mode < 3; mode++) {
            Books x = MANY.get();
            for (int i = 0; i < 16; i++) {
              is("by codes", x.other(mode, i), i);
            }
            is("a 17th", x.other(mode, 16), -1);
          }
          Books y = MANY.get();
          for (int i = 0; i < 2; i++) {
            y.withdraw(33 - i);
            y.withdraw(31 - i);
          }
          for (int mode = 0; mode < 2; mode++) {
            is("the first", y.other(mode, 0), 2);
            is("the greatest code", y.other(mode, 14), 127);
            is("no more", y.other(mode, 15), -1);
          }
          onlyTells("the last", 15, MANY, z -> z.other(1, 15));
        });
  }

  private void otherOfEachMode() {
    edge("Mode 0: HEARTHS of PARISHES that ask it (as count()) are more than half of all", () -> {
      Books x = Books.country();
      x.parish(2, 1, 0, 170);
      x.writes(8, 1, 0, 0);
      is("half", x.other(0, 0), -1);
      x.writes(7, 1, 0, 0);
      is("more than half", x.other(0, 0), 8);
      x.make(2);
      x.make(3);
      is("of PARISHES alone", x.other(0, 1), -1);
      x.tear(7, 0);
      is("nor of one that MADE BOOKS have", x.other(0, 0), 8);
      x.withdraw(1);
      is("WITHDRAWN", x.other(0, 0), -1);
      Books y = Books.country();
      y.writes(6, 1, 0, 0);
      y.writes(7, 1, 0, 0);
      is("90 of 170", y.other(0, 0), 8);
      y.tear(7, 0);
      is("a GAP", y.other(0, 0), -1);
      Books z = Books.country();
      z.parish(3, 1, 0, 171);
      z.writes(8, 1, 0, 0);
      is("171 of 341", z.other(0, 0), 8);
      is("of no PARISHES", new Books().other(0, 0), -1);
    });
    edge("1: in two ORDERS or more more than half of PARISHES ask it (ORDERS with some)", () -> {
      Books x = Books.country();
      x.writes(4, 2, 1, 0);
      x.writes(5, 2, 1, 0);
      is("half of one ORDER, all of another", x.other(1, 0), -1);
      x.writes(7, 2, 1, 0);
      is("two ORDERS", x.other(1, 0), 17);
      x.writes(6, 2, 1, 0);
      is("three ORDERS", x.other(1, 0), 17);
      x.withdraw(0);
      is("two others", x.other(1, 0), 17);
      x.withdraw(1);
      is("one", x.other(1, 0), -1);
      Books y = new Books();
      y.place(0, 1);
      y.place(1, 1);
      y.parish(2, 1, 2, 1);
      y.writes(3, 2, 1, 0);
      is("of ORDERS with some one alone", y.other(1, 0), -1);
      is("of no PARISHES", new Books().other(1, 0), -1);
    });
    edge("2: it stands in THE TOP's BOOK", () -> {
      Books x = Books.country();
      x.writes(4, 2, 1, 0);
      x.make(2);
      x.make(1);
      is("not MADE yet", x.other(2, 0), -1);
      x.make(0);
      is("MADE", x.other(2, 0), 17);
      is("of one PARISH of four", x.other(0, 0), -1);
      x.withdraw(0);
      is("that stays", x.other(2, 0), 17);
    });
  }

  private void otherIsNone() {
    edge("NONE: none such, no such mode", () -> {
      for (int i : new int[] {-1, 16, LEAST, GREATEST}) {
        for (int mode = 0; mode < 3; mode++) {
          int of = mode;
          onlyTells("the " + i + "-th", -1, MANY, x -> x.other(of, i));
        }
      }
      onlyTells("none", -1, ASKING, x -> x.other(2, 0));
      for (int mode : new int[] {-1, 3, LEAST, GREATEST}) {
        onlyTells("mode " + mode, -1, MANY, x -> x.other(mode, 0));
      }
    });
  }

  private void status() {
    promise(48);
    edge("How many: 0 PLACES, 1 ASKS, 2 MODELS, 3 RULES, 4 PERSONS, 5 NOW, 6 BOOKS MADE, 7 BORROWED, 8 DROPPED, 9 LATE, 10 YIELDED",
        () -> {
          Books x = EdgesOfShelves.KINDS.get();
          long[] first = {8, 7, 1, 0, 1, 0, 1, 1, 0, 0, 0};
          for (int what = 0; what <= 10; what++) {
            is("status " + what, x.status(what), first[what]);
          }
          x.law(1, 0, "k:w=1;j:x");
          x.days(400);
          x.make(3);
          x.make(1);
          x.writes(7, 0, 0, 0);
          x.put(0, 0, 1, 2, 3);
          x.write(7, 2, 1, 0, 0);
          x.give(5);
          x.withdraw(1);
          onlyTells("MODELS", 1, EdgesOfShelves.KINDS, y -> y.status(2));
          long[] later = {8, 13, 1, 1, 1, 400, 3, 2, 1, 2, 1};
          for (int what = 0; what <= 10; what++) {
            is("status " + what, x.status(what), later[what]);
          }
        });
    edge("NONE for another what", () -> {
      for (int what : new int[] {-1, 18, LEAST, LEAST + 10, GREATEST}) {
        onlyTells("what " + what, -1, ASKING, x -> x.status(what));
      }
    });
  }

  private void statusOfRefusals() {
    edge("11 to 17: REFUSALS -1 to -7", () -> {
      Books x = EdgesOfShelves.SHELVED.get();
      Looks.Call[] refused = {y -> y.row(8, 0, 0), y -> y.set(1, 0, 0), y -> y.set(2, 0, 0),
        y -> y.row(0, 0, -1), y -> y.set(0, 3, 0), y -> y.days(0), y -> y.row(0, 0, 61)};
      for (int i = 0; i < 7; i++) {
        for (int times = 0; times <= i; times++) {
          is("refused", refused[i].on(x), -1 - i);
        }
      }
      for (int i = 0; i < 7; i++) {
        is("REFUSALS " + (-1 - i), x.status(11 + i), i + 1);
      }
      is("of none else", Books.country().status(11), 0);
    });
  }
}

import java.util.function.Supplier;

/** Of BOOKS that are MADE: promise 32, and what the terms say of groups. */
final class EdgesOfMaking extends Edges {
  private static final int LEAST = Integer.MIN_VALUE;
  private static final int GREATEST = Integer.MAX_VALUE;

  /**
   * DISTRICT 2 with 21 PARISHES (3 to 23) of 999 HEARTHS, as many as may be: all ask for WHAT 0 of
   * WHOM 0, MUCH 99; PARISH 3 besides for WHAT 15 of WHOM 7, MUCH 0.
   */
  private static final Supplier<Books> CROWD = Books.bare(x -> {
    x.place(0, 1);
    x.place(1, 1);
    for (int p = 3; p < 24; p++) {
      x.parish(2, 1, 0, 999);
    }
    x.writes(3, 15, 7, 0);
    for (int p = 3; p < 24; p++) {
      x.writes(p, 0, 0, 99);
    }
  });

  EdgesOfMaking(Sentences document) {
    super(document);
  }

  @Override
  void run() {
    fieldsOfBooks();
    fieldsOfHearths();
    fieldsOfNumbers();
    fieldsAsTold();
    madeOnce();
    madeOfWhatStands();
    groups();
    byWhichRule();
    joins();
    dropped();
    hearthsBehind();
    make();
    makeIsRefused();
  }

  private void keeps(Supplier<Books> start, int place, String expression, int wanted) {
    Books x = start.get();
    is("rule " + expression, x.law(x.about(place, 0), 0, "k:" + expression + ";j:x"), 0);
    is(place + " keeps by " + expression, x.make(place), wanted);
  }

  /** DISTRICTS 2 and 3 are MADE: (1, 0) MUCH 60 and 20, (2, 1) MUCH 30, in 2 alone. */
  private static final Supplier<Books> ABOVE = Books.country(x -> {
    x.place(1, 1);
    x.writes(4, 1, 0, 40);
    x.writes(5, 1, 0, 60);
    x.writes(6, 1, 0, 20);
    x.writes(5, 2, 1, 30);
    x.make(2);
    x.make(3);
  });

  private void fieldsOfBooks() {
    terms(3);
    edge("FIELDS of a group: n (how many BOOKS below have it)", () -> {
      keeps(CROWD, 2, "n=1", 1);
      keeps(CROWD, 2, "n=21", 1);
      keeps(ABOVE, 1, "n=2&w=1|n=1&w=2", 2);
      keeps(ABOVE, 1, "n=3|n=4", 0);
    });
    edge("b (how many PLACES are below)", () -> {
      keeps(CROWD, 2, "b=21", 2);
      keeps(ABOVE, 2, "b=2", -6);
      keeps(ABOVE, 1, "b=3", 2);
      Supplier<Books> one = Books.bare(x -> {
        x.place(0, 1);
        x.place(1, 1);
        x.parish(2, 1, 0, 1);
        x.writes(3, 0, 0, 0);
      });
      keeps(one, 2, "b=1", 1);
      keeps(one, 2, "2*n>b", 1);
    });
  }

  private void fieldsOfHearths() {
    edge("h (HEARTHS of PARISHES behind it)", () -> {
      keeps(CROWD, 2, "h=999", 1);
      keeps(CROWD, 2, "h>9999", 1);
      keeps(CROWD, 2, "h=21*h", 0);
      keeps(CROWD, 2, "9999*h=9999*t", 1);
      keeps(ABOVE, 1, "h=150&w=1|h=30&w=2", 2);
    });
    edge("t (HEARTHS of all PARISHES below)", () -> {
      keeps(CROWD, 2, "t>9999", 2);
      keeps(CROWD, 2, "t=h", 1);
      keeps(ABOVE, 1, "t=170", 2);
    });
    edge("m (its greatest MUCH)", () -> {
      keeps(CROWD, 2, "m=0", 1);
      keeps(CROWD, 2, "m=99", 1);
      keeps(ABOVE, 1, "m=60&w=1|m=30&w=2", 2);
    });
  }

  private void fieldsOfNumbers() {
    edge("w (WHAT)", () -> {
      keeps(CROWD, 2, "w=0", 1);
      keeps(CROWD, 2, "w=15", 1);
      keeps(CROWD, 2, "w>15", 0);
    });
    edge("d (NOW)", () -> {
      keeps(CROWD, 2, "d=0", 2);
      Supplier<Books> late = () -> {
        Books x = CROWD.get();
        for (int i = 0; i < 10; i++) {
          x.days(400);
        }
        return x;
      };
      keeps(late, 2, "d=4000", 2);
      keeps(late, 2, "d<4000", 0);
    });
  }

  private void fieldsAsTold() {
    edge("y (yes of the PLACE for WHAT, as told; 0 at first)", () -> {
      keeps(CROWD, 2, "y=0", 2);
      Supplier<Books> told = () -> {
        Books x = CROWD.get();
        x.vote(2, 15, 99);
        x.vote(1, 0, 7);
        x.vote(3, 0, 7);
        x.vote(2, 1, 7);
        return x;
      };
      keeps(told, 2, "y=99", 1);
      keeps(told, 2, "y=99&w=15", 1);
      keeps(told, 2, "y=0&w=0", 1);
      keeps(told, 2, "y=7", 0);
      Supplier<Books> again = () -> {
        Books x = told.get();
        x.vote(2, 15, 0);
        return x;
      };
      keeps(again, 2, "y=0", 2);
    });
  }

  private void madeOnce() {
    edge("A BOOK of a DISTRICT, SHIRE or THE TOP is MADE once, on NOW", () -> {
      Books x = ABOVE.get();
      x.days(9);
      is("a SHIRE's", x.make(1), 2);
      x.days(1);
      is("THE TOP's", x.make(0), 2);
      for (int p = 0; p < 4; p++) {
        is("once", x.make(p), -6);
      }
      for (int p = 4; p < 8; p++) {
        is("not a PARISH's", x.make(p), -6);
      }
      is("its DAY", x.ask(x.book(2, 0), 5), 0);
      is("its DAY", x.ask(x.book(1, 0), 5), 9);
      is("its DAY", x.ask(x.book(0, 0), 5), 10);
      is("how many", x.status(6), 4);
    });
  }

  private void madeOfWhatStands() {
    edge("of what stands in the BOOKS of PLACES that are under it (PARISHES: ASKS that aren't WITHDRAWN, nor GAPS; others: what was MADE)",
        () -> {
          Books x = Books.country();
          x.writes(4, 0, 0, 1);
          x.writes(5, 0, 0, 2);
          x.writes(5, 1, 0, 3);
          x.writes(6, 0, 0, 4);
          x.withdraw(0);
          x.tear(5, 1);
          is("neither WITHDRAWN nor GAPS", x.make(2), 1);
          is("its PART", x.part(4, 0), 1);
          is("no more", x.part(4, 1), -1);
          x.withdraw(1);
          is("what was MADE", x.make(1), 1);
          is("its PART", x.part(5, 0), 4);
          is("DISTRICT 3's wasn't", x.part(5, 1), -1);
          is("MADE later", x.make(3), 1);
          is("of none but those under it", x.make(0), 1);
          is("its PART", x.part(7, 0), 5);
          is("MADE too late", x.end(3), 6);
          is("of nothing", Books.country().make(0), 0);
        });
  }

  private void groups() {
    edge("Groups: like WHAT and WHOM, by WHAT, then WHOM", () -> {
      Books x = Books.country();
      int[] codes = {127, 8, 7, 120, 0, 15, 119};
      for (int i = 0; i < codes.length; i++) {
        x.writes(4 + i % 2, codes[i] / 8, codes[i] % 8, 0);
      }
      x.writes(4, 0, 7, 0);
      is("how many", x.make(2), 7);
      int[] sorted = {0, 7, 8, 15, 119, 120, 127};
      for (int i = 0; i < sorted.length; i++) {
        int ask = x.book(2, i);
        is("its code", 8 * x.ask(ask, 2) + x.ask(ask, 3), sorted[i]);
        is("alone or not", x.part(ask, 1) >= 0 ? 1 : 0, 0);
      }
    });
    edge("Each group that is kept (EXPR of the RULE IN FORCE) becomes a MERGED ASK: of these PARTS (by PLACES)", () -> {
      Books x = CROWD.get();
      x.law(1, 0, "k:w=0;j:x");
      is("one is kept", x.make(2), 1);
      for (int i = 0; i < 21; i++) {
        is("PART " + i, x.part(22, i), i + 1);
        is("it went into it", x.ask(i + 1, 9), 22);
      }
      is("no more", x.part(22, 21), -1);
      is("MERGED", x.ask(22, 0), 2);
      Books y = Books.country();
      y.writes(5, 3, 3, 0);
      y.writes(4, 3, 3, 0);
      y.make(2);
      is("by PLACES", y.part(2, 0), 1);
      is("by PLACES", y.part(2, 1), 0);
    });
  }

  private void byWhichRule() {
    edge("(EXPR of the RULE IN FORCE)", () -> {
      Books x = ABOVE.get();
      is("of its LEVEL", x.law(2, 0, "k:w=1;j:l"), 0);
      is("of a later DAY", x.law(2, 10, "k:w=2;j:x"), 1);
      is("of another LEVEL", x.law(3, 0, "k:w>9;j:c"), 2);
      is("STRUCK", x.law(2, 1, "k:w<9;j:c"), 3);
      is("of none", x.law(2, 0, "k:w=2;j:"), -6);
      x.strike(3);
      x.days(9);
      is("by the first", x.make(1), 1);
      is("its WHAT", x.ask(x.book(1, 0), 2), 1);
      is("joined by l", x.ask(x.book(1, 0), 4), 20);
      is("THE TOP by its own", x.make(0), 0);
    });
  }

  private int joined(char join, int... muches) {
    Books x = Books.bare(y -> {
      y.place(0, 1);
      y.place(1, 1);
    }).get();
    for (int much : muches) {
      x.writes(x.parish(2, 1, 0, 1), 0, 0, much);
    }
    x.law(1, 0, "k:n>0;j:" + join);
    x.make(2);
    return x.ask(muches.length, 4);
  }

  private void joins() {
    edge("its MUCH the greatest (x), the least (l), or, MUCH of PARTS in order, the middle one (the lower of two; c)", () -> {
      for (char join : new char[] {'x', 'l', 'c'}) {
        is("of one by " + join, joined(join, 5), 5);
        is("of 0 by " + join, joined(join, 0), 0);
        is("of 99 by " + join, joined(join, 99, 99), 99);
      }
      is("x", joined('x', 3, 99, 0), 99);
      is("l", joined('l', 99, 0, 3), 0);
      is("c of three", joined('c', 99, 0, 3), 3);
      is("c of two", joined('c', 99, 0), 0);
      is("c of two", joined('c', 0, 99), 0);
      is("c of four", joined('c', 9, 1, 7, 3), 3);
      is("c of five", joined('c', 9, 1, 7, 3, 8), 7);
      is("c of like ones", joined('c', 4, 4, 9, 1), 4);
      is("c of like ones", joined('c', 9, 9, 1, 1), 1);
      is("c of like ones", joined('c', 9, 1, 9, 1, 9), 9);
      int[] all = new int[21];
      for (int i = 0; i < 21; i++) {
        all[i] = i * 8 % 21;
      }
      is("c of 21", joined('c', all), 10);
    });
  }

  private void dropped() {
    edge("Those of a group that isn't kept are DROPPED there", () -> {
      Books x = CROWD.get();
      x.law(1, 0, "k:w=15;j:x");
      is("one is kept", x.make(2), 1);
      for (int ask = 1; ask < 22; ask++) {
        is("DROPPED", x.ask(ask, 10), 2);
        is("went into none", x.ask(ask, 9), -1);
      }
      is("kept", x.ask(0, 10), -1);
      is("how many", x.status(8), 21);
      x.law(2, 0, "k:w=0;j:x");
      is("none is kept", x.make(1), 0);
      is("DROPPED", x.ask(22, 10), 1);
      is("how many", x.status(8), 22);
    });
  }

  private void hearthsBehind() {
    edge("HEARTHS behind an ASK: those of all PARISHES whose ASKS it was made of", () -> {
      Books x = CROWD.get();
      x.make(2);
      x.make(1);
      x.make(0);
      is("of a PARISH", x.ask(0, 11), 999);
      for (int i = 0; i < 3; i++) {
        is("of 21", x.ask(22 + 2 * i, 11), 20979);
        is("of one", x.ask(23 + 2 * i, 11), 999);
      }
      Books y = Books.country();
      y.writes(4, 0, 0, 0);
      y.writes(6, 0, 0, 0);
      y.writes(7, 0, 0, 0);
      y.law(1, 0, "k:n>1;j:x");
      y.make(2);
      y.make(3);
      is("a DROPPED one is not behind it", y.make(1) + 10 * y.ask(4, 11), 901);
    });
    edge("LESS: MUCH of an ASK less that of the one it went into", () -> {
      Books x = ABOVE.get();
      int[] less = {-20, 0, 0, 0};
      for (int ask = 0; ask < 4; ask++) {
        is("of " + ask, x.less(ask), less[ask]);
      }
      Books y = Books.country();
      y.writes(4, 0, 0, 99);
      y.writes(5, 0, 0, 0);
      y.law(1, 0, "k:n>1;j:c");
      y.make(2);
      is("the most", y.less(0), 99);
      is("none", y.less(1), 0);
    });
  }

  private static final Supplier<Books> MADE = () -> {
    Books x = ABOVE.get();
    x.make(1);
    x.make(0);
    return x;
  };

  private void make() {
    promise(32);
    edge("The BOOK of a PLACE is MADE: how many ASKS it has", () -> {
      is("of a DISTRICT", CROWD.get().make(2), 2);
      is("of a SHIRE", ABOVE.get().make(1), 2);
      is("of THE TOP, of a SHIRE that isn't MADE", ABOVE.get().make(0), 0);
      Books x = ABOVE.get();
      is("of nothing", x.make(8), 0);
      is("MADE", x.about(8, 5), 1);
      Books y = EdgesOfAsks.filled(32).get();
      is("32", y.make(2), 32);
      is("how many", y.about(2, 4), 32);
    });
    edge("-7 more than 160 ASKS would be", () -> {
      Supplier<Books> little = () -> {
        Books x = EdgesOfAsks.filled(157).get();
        x.write(6, 0, 0, 0, 0);
        x.write(7, 1, 0, 0, 0);
        return x;
      };
      refused("two more than 159", -7, little, x -> x.make(3));
      refused("128 more", -7, little, x -> x.make(2));
      is("none more", little.get().make(1), 0);
      Books x = little.get();
      x.law(1, 0, "k:w=1;j:x");
      is("one more is 160", x.make(3), 1);
      is("how many", x.status(1), 160);
      is("the other is DROPPED", x.ask(157, 10), 3);
      Books y = little.get();
      y.law(1, 0, "k:w>15;j:x");
      is("all DROPPED", y.make(2), 0);
      is("how many", y.status(8), 157);
      Books z = EdgesOfAsks.FULL.get();
      is("none, of 160", z.make(3), 0);
      is("one, of 160", z.make(2), -7);
    });
  }

  private void makeIsRefused() {
    edge("-1", () -> {
      for (int p : new int[] {-1, 9, LEAST, GREATEST}) {
        refused("PLACE " + p, -1, ABOVE, x -> x.make(p));
      }
    });
    edge("-6 a PARISH, it was", () -> {
      refused("a PARISH", -6, ABOVE, x -> x.make(4));
      refused("a PARISH whose DISTRICT isn't MADE", -6, CROWD, x -> x.make(23));
      refused("a DISTRICT that was", -6, ABOVE, x -> x.make(3));
      refused("a SHIRE that was", -6, MADE, x -> x.make(1));
      refused("THE TOP that was", -6, MADE, x -> x.make(0));
    });
  }
}

import java.util.function.Supplier;

/** Of ASKS as PARISHES write them, and MODELS: the second part of the terms, promises 14 to 18. */
final class EdgesOfAsks extends Edges {
  private static final int LEAST = Integer.MIN_VALUE;
  private static final int GREATEST = Integer.MAX_VALUE;

  /** 160 ASKS: 128 of PARISH 4, the others of 5. */
  static final Supplier<Books> FULL = filled(160);

  /**
   * SHELF 0 holds 20 bytes, 1 the ASK 0 (PARISH 4, WHAT 1, WHOM 1), 2 NOTHING, 3 21 bytes. PARISH 6
   * is TORN from its first ASK on (1), 7 from the end of none.
   */
  static final Supplier<Books> STARTED = Books.country(x -> {
    x.row(0, 0, 20);
    x.writes(4, 1, 1, 1);
    x.show(1, 0);
    x.row(3, 0, 21);
    x.writes(6, 1, 1, 1);
    x.tear(6, 0);
    x.tear(7, 0);
  });

  EdgesOfAsks(Sentences document) {
    super(document);
  }

  /** So many ASKS, the first 128 of PARISH 4, then of 5; SHELF 0 holds a ROW of none. */
  static Supplier<Books> filled(int asks) {
    return Books.country(x -> {
      x.row(0, 0, 0);
      for (int i = 0; i < asks; i++) {
        x.write(4 + i / 128, i / 8 % 16, i % 8, 1, 0);
      }
    });
  }

  @Override
  void run() {
    termsOfAsks();
    termsOfWords();
    termsOfModels();
    termsOfLikeness();
    termsOfBorrowing();
    termsOfBorrowingFrom();
    termsOfChance();
    termsOfGaps();
    modelIs();
    modelIsRefused();
    reaches();
    writeIs();
    writeIsRefused();
    writeIsWrong();
    withdraw();
    tear();
  }

  private void termsOfAsks() {
    terms(2);
    edge("ASKS have numbers, from 0 on, 160 at most, as they come: in the BOOK of a PLACE", () -> {
      Books x = filled(158).get();
      is("the first", x.book(4, 0), 0);
      is("the 128th", x.book(4, 127), 127);
      is("the first of another", x.book(5, 0), 128);
      is("the last but two", x.book(5, 29), 157);
      is("WRITTEN", x.write(6, 0, 0, 0, 0), 158);
      is("MADE", x.make(3), 1);
      is("the last", x.book(3, 0), 159);
      is("a 161st", x.write(6, 0, 1, 0, 0), -7);
      is("how many", x.status(1), 160);
      is("no 161st", x.ask(160, 0), -1);
    });
    edge("WHAT (0 to 15), WHOM (0 to 7), MUCH (0 to 99), WRITTEN on a DAY", () -> {
      Books x = STARTED.get();
      is("the least", x.write(5, 0, 0, 0, 0), 2);
      x.days(400);
      is("the greatest", x.write(5, 15, 7, 99, 0), 3);
      long[] least = {0, 0, 0, 0};
      long[] greatest = {15, 7, 99, 400};
      for (int what = 2; what <= 5; what++) {
        is("the least, " + what, x.ask(2, what), least[what - 2]);
        is("the greatest, " + what, x.ask(3, what), greatest[what - 2]);
      }
      is("WHAT 16", x.write(5, 16, 0, 0, 0), -6);
      is("WHAT -1", x.write(5, -1, 0, 0, 0), -6);
      is("WHOM 8", x.write(5, 1, 8, 0, 0), -6);
      is("WHOM -1", x.write(5, 1, -1, 0, 0), -6);
      is("MUCH 100", x.write(5, 1, 0, 100, 0), -6);
      is("MUCH -1", x.write(5, 1, 0, -1, 0), -6);
    });
    edge("KINDS: 0 ASK; 1 BORROWED, under ASK; 2 MERGED, under ASK; 3 BOUND, under MERGED", () -> {
      int[] asks = {0, 1, 5, 6};
      int[][] under = {{1, 0, 0, 0}, {1, 1, 0, 0}, {1, 0, 1, 0}, {1, 0, 1, 1}};
      for (int kind = 0; kind < 4; kind++) {
        Books x = EdgesOfShelves.KINDS.get();
        is("KIND", x.ask(asks[kind], 0), kind);
        for (int as = 0; as < 4; as++) {
          is(kind + " under " + as, x.says(kind, as) >= 0 ? 1 : 0, under[kind][as]);
        }
        is("no KIND 4", x.says(kind, 4), -1);
      }
    });
  }

  private void termsOfWords() {
    edge("Those of PARISHES have WORDS: a ROW (as it was then) of 20 elements at most", () -> {
      Books x = Books.country();
      x.row(0, 3, 20);
      for (int i = 0; i < 20; i++) {
        x.set(0, i, Long.MAX_VALUE - i);
      }
      x.model(0, 0, 4);
      is("20", x.write(4, 0, 0, 0, 0), 0);
      is("all of them", x.likeness(0, 0), 20);
      x.set(0, 0, 0);
      x.set(0, 19, 0);
      is("as it was", x.likeness(0, 0), 20);
      is("as it is", x.write(4, 0, 1, 0, 0), 1);
      is("two others", x.likeness(1, 0), 18);
      x.row(0, 3, 21);
      is("21", x.write(4, 0, 2, 0, 0), -6);
      is("none", x.row(0, 0, 0) + x.write(4, 0, 2, 0, 0), 3);
      is("none of them", x.likeness(2, 0), 0);
      x.make(2);
      is("of a DISTRICT's: no WORDS", x.likeness(3, 0), -1);
    });
    edge("A PARISH has no two of the same WHAT and WHOM that aren't WITHDRAWN", () -> {
      Books x = STARTED.get();
      is("the same", x.write(4, 1, 1, 9, 0), -6);
      is("another WHAT", x.write(4, 0, 1, 1, 0), 2);
      is("another WHOM", x.write(4, 1, 0, 1, 0), 3);
      is("another PARISH", x.write(5, 1, 1, 1, 0), 4);
      x.withdraw(0);
      is("WITHDRAWN", x.write(4, 1, 1, 1, 0), 5);
      is("the same again", x.write(4, 1, 1, 1, 0), -6);
      x.withdraw(5);
      is("both WITHDRAWN", x.write(4, 1, 1, 1, 0), 6);
      x.make(2);
      is("went into another one", x.write(4, 1, 1, 1, 0), -6);
    });
    edge("An ASK that is WRITTEN when the DISTRICT's BOOK was made already is LATE", () -> {
      Books x = Books.country();
      is("ahead of it", x.ask(x.writes(4, 0, 0, 0), 6), 0);
      x.make(0);
      x.make(1);
      x.make(3);
      is("others' were MADE", x.ask(x.writes(4, 0, 1, 0), 6), 0);
      x.make(2);
      is("on the same DAY", x.ask(x.writes(4, 0, 2, 0), 6), 1);
      x.days(1);
      is("later", x.ask(x.writes(5, 0, 2, 0), 6), 1);
      is("those ahead stay", x.ask(0, 6) + x.ask(1, 6), 0);
    });
  }

  private void termsOfModels() {
    edge("MODELS, 8 at most: a WHAT, WORDS, printed in a PLACE on a DAY", () -> {
      Books x = Books.country();
      x.put(0, 0, 1, 2, 3);
      x.days(7);
      for (int i = 0; i < 8; i++) {
        is("MODEL " + i, x.model(i, 0, i), i);
      }
      is("a 9th", x.model(0, 0, 0), -7);
      is("no 9th", x.reaches(8, 0), -1);
      is("how many", x.status(2), 8);
      is("its DAY in its PLACE", x.reaches(7, 7), 7);
      is("its WHAT, its WORDS", x.ask(x.write(7, 7, 0, 0, 0), 12), 7);
      is("another WHAT", x.ask(x.write(7, 6, 0, 0, 0), 12), -1);
    });
    edge("one REACHES a PLACE on that DAY and PATH", () -> {
      Books x = Books.country();
      x.row(0, 0, 0);
      x.days(100);
      x.model(0, 0, 4);
      x.days(50);
      x.model(0, 0, 0);
      int[] days = {106, 103, 101, 107, 100, 103, 108, 112};
      for (int p = 0; p < 8; p++) {
        is("PLACE " + p, x.reaches(0, p), days[p]);
        is("PLACE " + p + " from THE TOP", x.reaches(1, p), 150 + x.path(0, p));
      }
    });
  }

  private int likenessOf(long[] ask, long[] model) {
    Books x = Books.country();
    x.put(0, 3, ask);
    x.put(1, 3, model);
    x.model(1, 1, 0);
    x.write(4, 0, 0, 0, 0);
    return x.likeness(0, 0);
  }

  private static long[] row(long... elements) {
    return elements;
  }

  private void termsOfLikeness() {
    edge("LIKENESS of two ROWS: the greatest number of elements that both have in the same order (like ones, each once)",
        () -> {
          long[] twenty = new long[20];
          for (int i = 0; i < 20; i++) {
            twenty[i] = i * i;
          }
          is("all of 20", likenessOf(twenty, twenty), 20);
          is("of none", likenessOf(row(), row()), 0);
          is("of none and some", likenessOf(row(), row(1, 2)), 0);
          is("of some and none", likenessOf(row(1, 2), row()), 0);
          is("none alike", likenessOf(row(1, 2), row(3, 4)), 0);
          is("one", likenessOf(row(1), row(1)), 1);
          is("the last", likenessOf(row(1, 2, 3), row(4, 5, 3)), 1);
          is("the first", likenessOf(row(1, 2, 3), row(1, 5, 4)), 1);
          is("in another order", likenessOf(row(1, 2, 3), row(3, 2, 1)), 1);
          is("not side by side", likenessOf(row(1, 9, 2, 8, 3), row(1, 2, 7, 7, 3)), 3);
          is("the greatest number", likenessOf(row(5, 1, 2, 3, 4), row(1, 2, 3, 4, 5)), 4);
          is("the greatest number", likenessOf(row(1, 3, 2, 4), row(1, 2, 3, 4)), 3);
          is("like ones", likenessOf(row(1, 1, 1), row(1, 1)), 2);
          is("like ones, once", likenessOf(row(1), row(1, 1, 1)), 1);
          is("like ones in turn", likenessOf(row(2, 1, 2, 1), row(1, 2, 1, 2)), 3);
          is("the ends of longs", likenessOf(row(Long.MIN_VALUE, Long.MAX_VALUE), row(Long.MAX_VALUE, Long.MIN_VALUE)), 1);
          is("not the lowest bits alone", likenessOf(row(1L << 32, 1), row(0, 1)), 1);
        });
  }

  /** KIND of an ASK of those WORDS, where a MODEL of 1 to 20 was printed. */
  private int kindOf(long... words) {
    Books x = Books.country();
    x.row(1, 0, 20);
    for (int i = 0; i < 20; i++) {
      x.set(1, i, i + 1);
    }
    x.model(1, 1, 4);
    x.put(0, 0, words);
    return x.ask(x.write(4, 1, 0, 0, 0), 0);
  }

  /** The first n of 1 to 20, then others, so many in all. */
  private static long[] words(int n, int all) {
    long[] words = new long[all];
    for (int i = 0; i < all; i++) {
      words[i] = i < n ? i + 1 : 99;
    }
    return words;
  }

  private void termsOfBorrowing() {
    edge("An ASK is BORROWED, as it is WRITTEN, if a MODEL of that WHAT has REACHED its PLACE by then", () -> {
      Books x = Books.country();
      is("no MODEL yet", x.ask(x.writes(5, 3, 0, 0), 0), 0);
      x.model(3, 6, 4);
      is("on its way", x.ask(x.writes(5, 3, 1, 0), 0), 0);
      is("in its own PLACE", x.ask(x.writes(4, 3, 0, 0), 0), 1);
      x.days(2);
      is("a DAY ahead", x.ask(x.writes(5, 3, 2, 0), 0), 0);
      x.days(1);
      is("on the DAY", x.ask(x.writes(5, 3, 3, 0), 0), 1);
      x.days(1);
      is("later", x.ask(x.writes(5, 3, 4, 0), 0), 1);
      is("another WHAT", x.ask(x.writes(5, 4, 0, 0), 0), 0);
      is("those ahead stay", x.ask(0, 0) + x.ask(1, 0) + x.ask(3, 0), 0);
      is("how many", x.status(7), 3);
    });
    edge("and their LIKENESS is 3 or more", () -> {
      is("2 of 2", kindOf(words(2, 2)), 0);
      is("2 of 3", kindOf(words(2, 3)), 0);
      is("3 of 3", kindOf(words(3, 3)), 1);
      is("none of none", kindOf(), 0);
      is("20 of 20", kindOf(words(20, 20)), 1);
    });
    edge("and twice it no less than how many WORDS the ASK has", () -> {
      is("3 of 5", kindOf(words(3, 5)), 1);
      is("3 of 6", kindOf(words(3, 6)), 1);
      is("3 of 7", kindOf(words(3, 7)), 0);
      is("9 of 18", kindOf(words(9, 18)), 1);
      is("9 of 19", kindOf(words(9, 19)), 0);
      is("10 of 20", kindOf(words(10, 20)), 1);
      is("9 of 20", kindOf(words(9, 20)), 0);
    });
  }

  private void termsOfBorrowingFrom() {
    edge("from that of the greatest LIKENESS, of several the least number", () -> {
      Books x = Books.country();
      long[][] models = {{1, 2, 3}, {1, 2, 3, 4}, {4, 1, 2, 3, 4}, {1, 2, 3, 4, 5}, {1, 2, 3, 4, 5, 6}};
      for (long[] model : models) {
        x.put(0, 0, model);
        x.model(model.length == 6 ? 2 : 1, 0, model.length == 5 && model[0] == 1 ? 5 : 4);
      }
      x.put(0, 0, 1, 2, 3, 4, 5, 6);
      is("of like ones the least number", x.ask(x.write(4, 1, 0, 0, 0), 12), 1);
      is("which one, of another WHAT", x.ask(x.write(4, 2, 0, 0, 0), 12), 4);
      x.days(3);
      is("a greater one has come", x.ask(x.write(4, 1, 1, 0, 0), 12), 3);
      x.put(0, 0, 1, 2, 3);
      is("all are alike", x.ask(x.write(4, 1, 2, 0, 0), 12), 0);
      x.put(0, 0, 4, 1, 2, 3);
      is("one alone", x.ask(x.write(4, 1, 3, 0, 0), 12), 2);
    });
  }

  private void termsOfChance() {
    edge("CHANCE of a BORROWED one: of other ASKS of PARISHES of that WHAT whose PLACE that MODEL had not REACHED as they were WRITTEN: how many have a LIKENESS to it no less, and of how many",
        () -> {
          Books x = Books.country();
          x.put(0, 0, 1, 2, 3, 4);
          x.put(1, 0, 1, 2, 9);
          x.writes(4, 1, 0, 0);
          x.days(1);
          x.model(1, 0, 4);
          x.writes(4, 1, 1, 0);
          is("the BORROWED one", x.ask(1, 0), 1);
          isChance(x, "WRITTEN ahead of the MODEL", 1, 1);
          x.write(5, 1, 0, 0, 1);
          isChance(x, "less alike", 1, 2);
          x.write(5, 1, 1, 0, 0);
          isChance(x, "more alike", 2, 3);
          x.writes(5, 2, 1, 0);
          isChance(x, "of another WHAT", 2, 3);
          x.writes(4, 1, 2, 0);
          isChance(x, "where it is", 2, 3);
          x.days(2);
          x.writes(5, 1, 2, 0);
          isChance(x, "a DAY ahead of it", 3, 4);
          x.days(1);
          x.writes(5, 1, 3, 0);
          isChance(x, "on the DAY", 3, 4);
          x.make(3);
          x.writes(6, 1, 3, 0);
          isChance(x, "a LATE one", 4, 5);
          x.withdraw(0);
          x.tear(5, 0);
          isChance(x, "WITHDRAWN ones and GAPS", 4, 5);
          x.make(2);
          x.make(1);
          isChance(x, "MERGED ones", 4, 5);
        });
  }

  private void isChance(Books x, String what, int alike, int all) {
    is(what + ", how many", x.chance(1, false), alike);
    is(what + ", of how many", x.chance(1, true), all);
  }

  private void termsOfGaps() {
    edge("A PARISH's BOOK may be TORN from its i-th ASK on (as they were WRITTEN): those are GAPS from then on", () -> {
      for (int i = 0; i <= 3; i++) {
        Books x = Books.country();
        x.writes(4, 9, 0, 0);
        x.writes(5, 0, 0, 0);
        x.writes(4, 3, 0, 0);
        x.writes(4, 5, 0, 0);
        int[] own = {0, 2, 3};
        for (int n = 0; n < 3; n++) {
          is("not ahead", x.ask(own[n], 8), 0);
        }
        is("how many", x.tear(4, i), 3 - i);
        for (int n = 0; n < 3; n++) {
          is("the " + n + "-th of " + i, x.ask(own[n], 8), n < i ? 0 : 1);
        }
        is("another's", x.ask(1, 8), 0);
        is("those that stand are MADE", x.make(2), i + 1);
      }
    });
  }

  private void modelIs() {
    promise(14);
    edge("A MODEL of a WHAT with the WORDS in SHELF s is printed in a PLACE: its number", () -> {
      Books x = STARTED.get();
      is("WHAT 0, in THE TOP", x.model(0, 0, 0), 0);
      is("WHAT 15, in a PARISH", x.model(15, 0, 7), 1);
      x.row(0, 3, 0);
      is("no WORDS", x.model(0, 0, 0), 2);
      x.put(0, 2, 7, 8, 9);
      x.model(1, 0, 4);
      x.set(0, 0, 0);
      x.set(0, 1, 0);
      is("WORDS as they were", x.likeness(x.write(4, 0, 0, 0, 0), 3), 1);
    });
    edge("-7", () -> {
      is("the 8th", printed(7).get().model(0, 0, 0), 7);
      refused("a 9th", -7, printed(8), x -> x.model(0, 0, 0));
    });
  }

  /** STARTED, and so many MODELS. */
  static Supplier<Books> printed(int models) {
    return () -> {
      Books x = STARTED.get();
      for (int i = 0; i < models; i++) {
        x.model(1, 0, 0);
      }
      return x;
    };
  }

  private void modelIsRefused() {
    edge("-1 either", () -> {
      for (int n : new int[] {-1, 8, LEAST, GREATEST}) {
        refused("SHELF " + n, -1, STARTED, x -> x.model(0, n, 0));
        refused("PLACE " + n, -1, STARTED, x -> x.model(0, 0, n));
      }
    });
    edge("-2", () -> refused("an ASK", -2, STARTED, x -> x.model(0, 1, 0)));
    edge("-3", () -> refused("NOTHING", -3, STARTED, x -> x.model(0, 2, 0)));
    edge("-6 WHAT, more than 20 WORDS", () -> {
      for (int what : new int[] {-1, 16, LEAST, GREATEST}) {
        refused("WHAT " + what, -6, STARTED, x -> x.model(what, 0, 0));
      }
      is("20 WORDS", STARTED.get().model(0, 0, 0), 0);
      refused("21 WORDS", -6, STARTED, x -> x.model(0, 3, 0));
    });
  }

  private void reaches() {
    promise(15);
    edge("The DAY on which a MODEL REACHES a PLACE", () -> {
      Books x = Books.country();
      x.row(0, 0, 0);
      x.model(0, 0, 7);
      is("on DAY 0", x.reaches(0, 7), 0);
      is("THE TOP", x.reaches(0, 0), 12);
      for (int i = 0; i < 10; i++) {
        x.days(400);
      }
      x.model(0, 0, 0);
      is("on the last DAY", x.reaches(1, 0), 4000);
      is("beyond the last DAY", x.reaches(1, 7), 4012);
      onlyTells("a PARISH", 6, printed(8), y -> y.reaches(7, 4));
    });
    edge("NONE: no such ones", () -> {
      for (int n : new int[] {-1, 8, LEAST, GREATEST}) {
        onlyTells("PLACE " + n, -1, printed(8), x -> x.reaches(0, n));
        onlyTells("MODEL " + n, -1, printed(8), x -> x.reaches(n, 0));
      }
      onlyTells("one beyond", -1, printed(1), x -> x.reaches(1, 0));
      onlyTells("none", -1, STARTED, x -> x.reaches(0, 0));
    });
  }

  private void writeIs() {
    promise(16);
    edge("A PARISH writes an ASK with the WORDS in SHELF s: its number", () -> {
      Books x = STARTED.get();
      is("20 WORDS", x.write(5, 0, 0, 0, 0), 2);
      x.row(7, 3, 0);
      is("no WORDS", x.write(5, 15, 7, 99, 7), 3);
      is("its PLACE", x.ask(3, 1), 5);
      is("its BOOK", x.book(5, 1), 3);
      is("went into none", x.ask(3, 9), -1);
      is("DROPPED nowhere", x.ask(3, 10), -1);
    });
    edge("-7", () -> {
      is("the 160th", filled(159).get().write(6, 0, 0, 0, 0), 159);
      refused("a 161st", -7, FULL, x -> x.write(6, 0, 0, 0, 0));
    });
  }

  private void writeIsRefused() {
    edge("-1 either", () -> {
      for (int n : new int[] {-1, 8, LEAST, GREATEST}) {
        refused("PLACE " + n, -1, STARTED, x -> x.write(n, 0, 0, 0, 0));
        refused("SHELF " + n, -1, STARTED, x -> x.write(4, 0, 0, 0, n));
      }
    });
    edge("-2", () -> refused("an ASK", -2, STARTED, x -> x.write(4, 0, 0, 0, 1)));
    edge("-3", () -> refused("NOTHING", -3, STARTED, x -> x.write(4, 0, 0, 0, 2)));
  }

  private void writeIsWrong() {
    edge("-6 no PARISH, a number", () -> {
      for (int p = 0; p < 4; p++) {
        int place = p;
        refused("PLACE " + p, -6, STARTED, x -> x.write(place, 0, 0, 0, 0));
      }
      for (int n : new int[] {-1, LEAST, GREATEST}) {
        refused("WHAT " + n, -6, STARTED, x -> x.write(4, n, 0, 0, 0));
        refused("WHOM " + n, -6, STARTED, x -> x.write(4, 0, n, 0, 0));
        refused("MUCH " + n, -6, STARTED, x -> x.write(4, 0, 0, n, 0));
      }
      refused("WHAT 16", -6, STARTED, x -> x.write(4, 16, 0, 0, 0));
      refused("WHOM 8", -6, STARTED, x -> x.write(4, 0, 8, 0, 0));
      refused("MUCH 100", -6, STARTED, x -> x.write(4, 0, 0, 100, 0));
    });
    edge("it has one of that WHAT and WHOM", () -> {
      refused("it has", -6, STARTED, x -> x.write(4, 1, 1, 50, 0));
      is("another has", STARTED.get().write(5, 1, 1, 50, 0), 2);
    });
    edge("it is TORN", () -> {
      refused("from its first", -6, STARTED, x -> x.write(6, 5, 5, 0, 0));
      refused("what is a GAP", -6, STARTED, x -> x.write(6, 1, 1, 0, 0));
      refused("from its end", -6, STARTED, x -> x.write(7, 5, 5, 0, 0));
      is("another is", STARTED.get().write(5, 5, 5, 0, 0), 2);
    });
    edge("more than 20 WORDS", () -> {
      is("20", STARTED.get().write(4, 0, 0, 0, 0), 2);
      refused("21", -6, STARTED, x -> x.write(4, 0, 0, 0, 3));
      Books x = STARTED.get();
      x.row(3, 3, 60);
      is("60", x.write(4, 0, 0, 0, 3), -6);
    });
  }

  /** ASKS 0 (WITHDRAWN), 1 (a GAP) and 2 of PARISHES; 3 of DISTRICT 2, 4 of SHIRE 1, 5 of THE TOP. */
  private static final Supplier<Books> GONE = Books.country(x -> {
    x.writes(4, 0, 0, 0);
    x.writes(5, 0, 0, 0);
    x.writes(4, 1, 0, 0);
    x.withdraw(0);
    x.tear(5, 0);
    x.make(2);
    x.make(1);
    x.make(0);
  });

  private void withdraw() {
    promise(17);
    edge("An ASK of a PARISH is WITHDRAWN: 1", () -> {
      Books x = STARTED.get();
      is("withdraw", x.withdraw(0), 1);
      is("WITHDRAWN", x.ask(0, 7), 1);
      is("another isn't", x.ask(1, 7), 0);
      is("a LATE one", x.make(2) + x.withdraw(x.writes(5, 0, 0, 0)), 1);
    });
    edge("-1", () -> {
      for (int ask : new int[] {-1, 6, LEAST, GREATEST}) {
        refused("ASK " + ask, -1, GONE, x -> x.withdraw(ask));
      }
      refused("of none", -1, Books.country(x -> { }), x -> x.withdraw(0));
    });
    edge("-6 of another PLACE, it is WITHDRAWN, or a GAP", () -> {
      refused("of a DISTRICT", -6, GONE, x -> x.withdraw(3));
      refused("of a SHIRE", -6, GONE, x -> x.withdraw(4));
      refused("of THE TOP", -6, GONE, x -> x.withdraw(5));
      refused("WITHDRAWN", -6, GONE, x -> x.withdraw(0));
      refused("a GAP", -6, GONE, x -> x.withdraw(1));
    });
    edge("(Where it went into another one, that stays.)", () -> {
      Books x = GONE.get();
      is("it went into one", x.withdraw(2), 1);
      is("that stays", x.ask(2, 9), 3);
      is("its PART", x.part(3, 0), 2);
      is("HEARTHS behind", x.ask(3, 11), 50);
      is("the end", x.end(2), 5);
      is("in its BOOK", x.about(2, 4), 1);
      is("SAID", x.said(2), 5000);
    });
  }

  private void tear() {
    promise(18);
    edge("A PARISH's BOOK is TORN from its i-th ASK (0 to how many it has) on: how many are GAPS", () -> {
      Books x = Books.country();
      x.writes(4, 0, 0, 0);
      x.writes(4, 1, 0, 0);
      x.writes(5, 1, 0, 0);
      x.withdraw(1);
      is("from 0, a WITHDRAWN one too", x.tear(4, 0), 2);
      is("from how many it has", x.tear(5, 1), 0);
      is("from 0 of none", x.tear(6, 0), 0);
      is("TORN from", x.about(4, 7), 0);
      is("TORN from", x.about(5, 7), 1);
      is("TORN from", x.about(6, 7), 0);
    });
    edge("-1", () -> {
      for (int p : new int[] {-1, 8, LEAST, GREATEST}) {
        refused("PLACE " + p, -1, STARTED, x -> x.tear(p, 0));
      }
    });
    edge("-6 no PARISH, i, it is TORN, its DISTRICT's BOOK was MADE", () -> {
      for (int p = 0; p < 4; p++) {
        int place = p;
        refused("PLACE " + p, -6, STARTED, x -> x.tear(place, 0));
      }
      for (int i : new int[] {-1, 2, LEAST, GREATEST}) {
        refused("i " + i, -6, STARTED, x -> x.tear(4, i));
      }
      refused("i of none", -6, STARTED, x -> x.tear(5, 1));
      refused("TORN from 0", -6, STARTED, x -> x.tear(6, 0));
      refused("TORN from its end", -6, STARTED, x -> x.tear(7, 0));
      refused("MADE", -6, GONE, x -> x.tear(4, 0));
      is("another DISTRICT's was", GONE.get().tear(6, 0), 0);
    });
  }
}

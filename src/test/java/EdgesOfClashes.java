import java.util.function.Supplier;

/** Of what CLASHES, and BEST BOOKS: the fifth part of the terms, promises 41 to 46. */
final class EdgesOfClashes extends Edges {
  private static final int LEAST = Integer.MIN_VALUE;
  private static final int GREATEST = Integer.MAX_VALUE;
  private static final int[] NO_PLACES = {-1, 8, LEAST, GREATEST};

  EdgesOfClashes(Sentences document) {
    super(document);
  }

  @Override
  void run() {
    termsOfClashing();
    termsOfFewest();
    termsOfSaid();
    termsOfBest();
    termsOfSeveral();
    clash();
    leave();
    judgeIs();
    judgeIsRefused();
    bestIs();
    bestIsRefused();
    bestOf();
    said();
  }

  /** PARISH 4 asks for WHATS 0 to n - 1 (those beyond 15 for 0 on, of WHOM 1). */
  static Supplier<Books> asking(int n) {
    return Books.country(x -> {
      for (int i = 0; i < n; i++) {
        x.writes(4, i % 16, i / 16, 1);
      }
    });
  }

  private static Books clashing(int n, int[]... pairs) {
    Books x = asking(n).get();
    for (int[] pair : pairs) {
      x.clash(pair[0], pair[1], true);
    }
    return x;
  }

  /**
   * PARISH 4 asks for WHATS 9, 15, 3, 12, 3; 9 and 3 CLASH, 3 and 15, 3 with itself. SHELF 0 holds 0
   * and 1. BEST BOOK of DISTRICT 2 in a SPACE of 3 was asked for.
   */
  private static final Supplier<Books> QUARREL = Books.country(x -> {
    int[] whats = {9, 15, 3, 12, 3};
    for (int i = 0; i < 5; i++) {
      x.writes(4, whats[i], i, 1);
    }
    x.clash(9, 3, true);
    x.clash(3, 15, true);
    x.clash(3, 3, true);
    x.put(0, 0, 0, 1);
    x.best(2, 3);
  });

  private static int[] pair(int a, int b) {
    return new int[] {a, b};
  }

  private void termsOfClashing() {
    terms(5);
    edge("Two WHATS may CLASH (told), also a WHAT with itself (two ASKS of it)", () -> {
      Books x = asking(2).get();
      is("not told", x.judges(4), 1);
      x.clash(0, 1, true);
      is("told", x.judges(4), 0);
      x.clash(1, 0, false);
      is("told otherwise", x.judges(4), 1);
      x.clash(0, 0, true);
      is("with itself, one ASK of it", x.judges(4), 1);
      x.writes(4, 0, 7, 0);
      is("two ASKS of it", x.judges(4), 0);
      is("without one of them", x.judges(4, 0), 1);
      is("without the other", x.judges(4, 2), 1);
      is("without another", x.judges(4, 1), 0);
      x.clash(0, 0, false);
      is("told otherwise", x.judges(4), 1);
      Books y = Books.country();
      y.writes(4, 0, 0, 0);
      y.writes(4, 15, 0, 0);
      y.clash(15, 0, true);
      is("the least and the greatest", y.judges(4), 0);
    });
  }

  private void termsOfFewest() {
    edge("FEWEST to leave in a BOOK: the least set of its ASKS without which no two CLASH", () -> {
      is("none CLASH", asking(3).get().leave(4), 0);
      is("no ASKS", Books.country().leave(4), 0);
      is("one, with itself", clashing(1, pair(0, 0)).leave(4), 0);
      is("one of all", clashing(4, pair(3, 0), pair(3, 1), pair(3, 2)).leave(4), 0b1000);
      is("two rather than three", clashing(5, pair(0, 3), pair(1, 3), pair(1, 4), pair(2, 4)).leave(4), 0b11000);
      Books x = asking(12).get();
      for (int a = 0; a < 12; a++) {
        for (int b = 0; b < a; b++) {
          x.clash(a, b, true);
        }
      }
      is("all but one of 12", x.leave(4), 0b011111111111);
    });
    edge("of several the least as bits (the first ASK is bit 0)", () -> {
      is("of two", clashing(2, pair(0, 1)).leave(4), 0b01);
      is("of the last two", clashing(12, pair(10, 11)).leave(4), 1 << 10);
      is("of a ring", clashing(4, pair(0, 1), pair(1, 2), pair(2, 3), pair(3, 0)).leave(4), 0b0101);
      is("of two pairs", clashing(4, pair(0, 3), pair(1, 2)).leave(4), 0b0011);
      is("of a row of three", clashing(3, pair(0, 1), pair(1, 2)).leave(4), 0b010);
    });
  }

  private void termsOfSaid() {
    edge("SAID of a group joined at a MUCH: the sum over its PARTS of HEARTHS behind times (100 less the difference of MUCHES)",
        () -> {
          int[][] due = {{50 * 40 + 30 * 100 + 'x', 'x'}, {50 * 100 + 30 * 40 + 'l', 'l'}, {50 * 100 + 30 * 40 + 'c', 'c'}};
          for (int[] join : due) {
            Books x = Books.country();
            x.writes(4, 0, 0, 10);
            x.writes(5, 0, 0, 70);
            x.law(1, 0, "k:n>0;j:" + (char) join[1]);
            x.make(2);
            is("joined by " + (char) join[1], x.said(2), join[0] - join[1]);
          }
          Books y = Books.country();
          y.writes(4, 0, 0, 0);
          y.writes(5, 0, 0, 99);
          y.make(2);
          is("the greatest difference", y.said(2), 50 * 1 + 30 * 100);
          Books z = Books.country();
          z.writes(4, 0, 0, 99);
          z.make(2);
          is("none", z.said(2), 5000);
          z.make(1);
          is("HEARTHS behind", z.said(1), 5000);
        });
  }

  private void termsOfBest() {
    edge("BEST BOOK of a PLACE in a SPACE: of its groups (as they would be now, made or not) a set of SPACE at most, no two of which CLASH, each joined by x, l or c: the most SAID together",
        () -> {
          Books x = Books.country();
          x.writes(4, 0, 0, 10);
          x.writes(5, 0, 0, 70);
          x.writes(5, 1, 0, 0);
          x.writes(5, 2, 0, 0);
          is("in a SPACE of none", x.best(2, 0), 0);
          is("in a SPACE of one", x.best(2, 1), 6200);
          is("in a SPACE of two", x.best(2, 2), 9200);
          is("in a SPACE of three", x.best(2, 3), 12200);
          is("in more", x.best(2, 12), 12200);
          x.clash(1, 2, true);
          is("two that CLASH", x.best(2, 12), 9200);
          x.clash(0, 2, true);
          x.clash(0, 1, true);
          is("three that CLASH", x.best(2, 12), 6200);
          x.clash(1, 2, false);
          is("two small ones are less", x.best(2, 2), 6200);
          x.law(1, 0, "k:w=2;j:x");
          x.make(2);
          is("made, whatever was kept", x.best(2, 12), 6200);
          x.withdraw(0);
          is("as they would be now", x.best(2, 1), 3000);
          is("as they would be now", x.best(2, 12), 6000);
          is("of what was MADE", x.best(1, 12), 3000);
          is("of what isn't", x.best(0, 12), 0);
        });
  }

  private void termsOfSeveral() {
    edge("of several the least set as bits", () -> {
      Books x = asking(3).get();
      x.best(2, 2);
      isBest("of three two", x, 1, 1, 0);
      x.clash(0, 1, true);
      x.best(2, 2);
      isBest("without two that CLASH", x, 1, 0, 1);
      x.best(2, 1);
      isBest("of three one", x, 1, 0, 0);
      x.best(2, 0);
      isBest("none", x, 0, 0, 0);
    });
    edge("each joined by the first of x, l, c that says most", () -> {
      Books x = Books.country();
      x.parish(2, 1, 0, 40);
      int[][] muches = {{7, 7, 7}, {9, 0, 0}, {0, 0, 9}, {5, 0, 9}, {0, 5, 5}};
      for (int what = 0; what < muches.length; what++) {
        int[] parishes = {4, 5, 8};
        for (int i = 0; i < 3; i++) {
          x.writes(parishes[i], what, 0, muches[what][i]);
        }
      }
      x.best(2, 12);
      isBest("like ones, the least, the least, the middle one, the greatest", x, 1, 2, 2, 3, 1);
    });
  }

  private void isBest(String what, Books x, int... joins) {
    for (int i = 0; i < joins.length; i++) {
      is(what + ", group " + i, x.bestOf(i), joins[i]);
    }
    is(what + ", no more", x.bestOf(joins.length), -1);
  }

  private void clash() {
    promise(41);
    edge("Two WHATS CLASH, or not: 1 if that was otherwise, else 0", () -> {
      Books x = new Books();
      for (int[] pair : new int[][] {{0, 15}, {15, 14}, {3, 3}, {0, 0}, {15, 15}}) {
        is("not told", x.clash(pair[0], pair[1], false), 0);
        is("told", x.clash(pair[0], pair[1], true), 1);
        is("told again", x.clash(pair[0], pair[1], true), 0);
        is("the other way", x.clash(pair[1], pair[0], true), 0);
        is("told otherwise", x.clash(pair[1], pair[0], false), 1);
        is("told otherwise again", x.clash(pair[0], pair[1], false), 0);
        x.clash(pair[0], pair[1], true);
      }
      is("others never", x.clash(0, 14, false), 0);
    });
    edge("-6 either", () -> {
      for (int n : new int[] {-1, 16, LEAST, GREATEST}) {
        refused("a " + n, -6, asking(2), x -> x.clash(n, 0, true));
        refused("b " + n, -6, asking(2), x -> x.clash(0, n, true));
        refused("both " + n, -6, asking(2), x -> x.clash(n, n, false));
      }
    });
  }

  private void leave() {
    promise(42);
    edge("FEWEST to leave in a PLACE's BOOK (ASKS that aren't WITHDRAWN, nor GAPS), as bits of these", () -> {
      Books x = clashing(4, pair(1, 2), pair(2, 3));
      is("all four", x.leave(4), 0b0100);
      x.withdraw(0);
      is("without the first", x.leave(4), 0b010);
      x.tear(4, 3);
      is("without the last", x.leave(4), 0b01);
      x.withdraw(1);
      is("of one", x.leave(4), 0);
      Books y = clashing(3, pair(0, 2));
      is("not MADE yet", y.leave(2), 0);
      y.make(2);
      is("of a DISTRICT", y.leave(2), 0b001);
      y.withdraw(0);
      is("of a DISTRICT still", y.leave(2), 0b001);
      y.make(1);
      y.make(0);
      is("of THE TOP", y.leave(0), 0b001);
      onlyTells("by WHATS", 0b10100, QUARREL, z -> z.leave(4));
    });
    edge("-1", () -> {
      for (int p : NO_PLACES) {
        refused("PLACE " + p, -1, asking(2), x -> x.leave(p));
      }
    });
    edge("-7 more than 12", () -> {
      is("12", asking(12).get().leave(4), 0);
      refused("13", -7, asking(13), x -> x.leave(4));
      Books x = clashing(13, pair(11, 12));
      x.withdraw(0);
      is("13, one WITHDRAWN", x.leave(4), 1 << 10);
      Books y = clashing(14, pair(10, 11));
      y.tear(4, 12);
      is("14, two GAPS", y.leave(4), 1 << 10);
      Books z = asking(13).get();
      z.make(2);
      is("13 of a DISTRICT", z.leave(2), -7);
    });
  }

  /** PARISH 4 asks 12; SHELF 0 holds 0 and 11, 1 an ASK, 2 NOTHING, 3 a ROW of none, 4 one int 12. */
  private static final Supplier<Books> TWELVE = () -> {
    Books x = clashing(12, pair(0, 11));
    x.put(0, 0, 0, 11);
    x.show(1, 0);
    x.row(3, 2, 0);
    x.put(4, 2, 12);
    return x;
  };

  /** The same of 13: SHELF 4 tells the last. */
  static final Supplier<Books> THIRTEEN = () -> {
    Books x = TWELVE.get();
    x.writes(4, 12, 0, 1);
    return x;
  };

  private void judgeIs() {
    promise(43);
    edge("Whether no two CLASH in a BOOK without those that the ROW in SHELF s tells (elements as ints: i of ASKS as leave() counts them): 1, 0",
        () -> {
          Books x = TWELVE.get();
          is("without both", x.judge(4, 0), 1);
          is("without none", x.judge(4, 3), 0);
          is("without the first", x.judges(4, 0), 1);
          is("without the last", x.judges(4, 11), 1);
          is("told thrice", x.judges(4, 11, 11, 11), 1);
          is("without others", x.judges(4, 1, 10), 0);
          is("without all", x.judges(4, 0, 1, 2, 3, 4, 5, 6, 7, 8, 9, 10, 11), 1);
          x.row(0, 0, 60);
          is("the first told 60 times", x.judge(4, 0), 1);
          x.put(0, 3, 11 + (1L << 32));
          is("of longs the lowest 32 bits", x.judge(4, 0), 1);
          x.withdraw(5);
          is("as leave() counts them", x.judges(4, 10), 1);
          is("no 11", x.judges(4, 11), -6);
          is("no ASKS", x.judges(5), 1);
          is("a DISTRICT, not MADE", x.judges(2), 1);
          x.make(2);
          is("a DISTRICT", x.judges(2), 0);
          is("a DISTRICT", x.judges(2, 0), 1);
          onlyTells("by WHATS", 0, QUARREL, y -> y.judge(4, 0));
        });
    edge("-7 more than 12", () -> {
      is("12", TWELVE.get().judge(4, 3), 0);
      refused("13", -7, THIRTEEN, x -> x.judge(4, 3));
      refused("13, without one", -7, THIRTEEN, x -> x.judge(4, 4));
      Books x = THIRTEEN.get();
      x.withdraw(0);
      is("13, one WITHDRAWN", x.judge(4, 3), 1);
    });
  }

  private void judgeIsRefused() {
    edge("-1 either", () -> {
      for (int n : NO_PLACES) {
        refused("PLACE " + n, -1, TWELVE, x -> x.judge(n, 3));
        refused("SHELF " + n, -1, TWELVE, x -> x.judge(4, n));
      }
    });
    edge("-2", () -> refused("an ASK", -2, TWELVE, x -> x.judge(4, 1)));
    edge("-3", () -> refused("NOTHING", -3, TWELVE, x -> x.judge(4, 2)));
    edge("-6 an i of none", () -> {
      refused("12 of 12", -6, TWELVE, x -> x.judge(4, 4));
      refused("of no ASKS", -6, TWELVE, x -> x.judge(5, 0));
      for (long i : new long[] {-1, 12, LEAST, GREATEST, 32, 64}) {
        Books x = TWELVE.get();
        is("i " + i, x.judges(4, i), -6);
        is("behind others, i " + i, x.judges(4, 0, 11, i), -6);
        is("ahead of others, i " + i, x.judges(4, i, 0, 11), -6);
      }
      Books y = TWELVE.get();
      y.put(0, 3, 1L << 31);
      is("of longs the lowest 32 bits", y.judge(4, 0), -6);
    });
  }

  private void bestIs() {
    promise(44);
    edge("BEST BOOK of a PLACE in a SPACE (0 to 12): SAID", () -> {
      Books x = asking(10).get();
      is("SPACE 0", x.best(2, 0), 0);
      is("SPACE 1", x.best(2, 1), 5000);
      is("SPACE 9", x.best(2, 9), 45000);
      is("SPACE 10", x.best(2, 10), 50000);
      is("SPACE 12", x.best(2, 12), 50000);
      is("of nothing", x.best(3, 12), 0);
      is("of a SHIRE", x.best(1, 12), 0);
      x.make(2);
      is("of a SHIRE", x.best(1, 12), 50000);
      is("of THE TOP", x.best(0, 12), 0);
      onlyTells("asked for again", 15000, QUARREL, y -> y.best(2, 3));
    });
    edge("-7 more than 10 groups", () -> {
      is("10", asking(10).get().best(2, 12), 50000);
      refused("11", -7, asking(11), x -> x.best(2, 12));
      refused("11 in a SPACE of none", -7, asking(11), x -> x.best(2, 0));
      Books x = asking(10).get();
      x.writes(5, 0, 0, 1);
      is("10 of 11 ASKS", x.best(2, 12), 53000);
      x.writes(5, 0, 1, 1);
      is("of one WHAT, two WHOMS", x.best(2, 12), -7);
      x.withdraw(9);
      is("one WITHDRAWN", x.best(2, 12), 51000);
    });
  }

  private void bestIsRefused() {
    edge("-1", () -> {
      for (int p : NO_PLACES) {
        refused("PLACE " + p, -1, asking(2), x -> x.best(p, 1));
      }
    });
    edge("-6 SPACE, a PARISH", () -> {
      for (int space : new int[] {-1, 13, LEAST, GREATEST}) {
        refused("SPACE " + space, -6, asking(2), x -> x.best(2, space));
      }
      for (int p = 4; p < 8; p++) {
        int parish = p;
        refused("PARISH " + p, -6, asking(2), x -> x.best(parish, 1));
      }
    });
  }

  /** The latest best(): of groups (0, 0), (0, 1), (1, 0), (1, 1) all but the second one, in SPACE 3. */
  private static final Supplier<Books> BEST = Books.country(x -> {
    x.writes(5, 1, 1, 7);
    x.writes(4, 1, 1, 0);
    x.writes(4, 1, 0, 0);
    x.writes(5, 0, 1, 0);
    x.writes(4, 0, 0, 0);
    x.best(2, 3);
  });

  private void bestOf() {
    promise(45);
    edge("Group i (by WHAT, then WHOM) of the latest best() that was not refused: 0 it isn't in it, 1 joined by x, 2 l, 3 c", () -> {
      Books x = BEST.get();
      isBest("by WHAT, then WHOM", x, 1, 0, 1, 2);
      onlyTells("the last", 2, BEST, y -> y.bestOf(3));
      x.best(4, 1);
      x.best(8, 1);
      x.best(2, 13);
      isBest("refused ones aside", x, 1, 0, 1, 2);
      x.withdraw(4);
      x.make(2);
      isBest("as it was", x, 1, 0, 1, 2);
      Books z = BEST.get();
      for (int i = 0; i < 7; i++) {
        z.writes(4, 9, i, 0);
      }
      is("11 groups", z.best(2, 1), -7);
      isBest("as it was", z, 1, 0, 1, 2);
      z.best(2, 0);
      isBest("refused still", z, 1, 0, 1, 2);
      z.best(3, 0);
      isBest("of none", z);
    });
    edge("NONE: none such", () -> {
      for (int i : new int[] {-1, 4, LEAST, GREATEST}) {
        onlyTells("group " + i, -1, BEST, x -> x.bestOf(i));
      }
      onlyTells("no best() yet", -1, asking(2), x -> x.bestOf(0));
      Books x = asking(10).get();
      x.best(2, 12);
      is("the 10th", x.bestOf(9), 1);
      is("an 11th", x.bestOf(10), -1);
    });
  }

  private void said() {
    promise(46);
    edge("SAID of the ASKS of a BOOK that was MADE", () -> {
      Books x = Books.country();
      x.writes(4, 0, 0, 10);
      x.writes(5, 0, 0, 70);
      x.writes(5, 1, 0, 3);
      x.writes(5, 2, 0, 3);
      x.law(1, 0, "k:w<2;j:x");
      x.make(2);
      is("of two, one DROPPED", x.said(2), 50 * 40 + 30 * 100 + 30 * 100);
      x.withdraw(0);
      is("that stays", x.said(2), 8000);
      is("of nothing", x.make(3) + x.said(3), 0);
      x.make(1);
      is("of a SHIRE", x.said(1), 11000);
      onlyTells("of THE TOP", 15000, EdgesOfTracing.TRACED, y -> y.said(0));
    });
    edge("NONE: no such PLACE, it was not", () -> {
      for (int p : NO_PLACES) {
        onlyTells("PLACE " + p, -1, BEST, x -> x.said(p));
      }
      onlyTells("a DISTRICT that isn't MADE", -1, BEST, x -> x.said(2));
      onlyTells("a PARISH", -1, BEST, x -> x.said(4));
    });
  }
}

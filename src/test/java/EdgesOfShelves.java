import java.util.function.Supplier;

/** Of SHELVES: the end of the first part of the terms, promises 7 to 13. */
final class EdgesOfShelves extends Edges {
  private static final int LEAST = Integer.MIN_VALUE;
  private static final int GREATEST = Integer.MAX_VALUE;
  private static final int[] NO_SHELVES = {-1, 8, LEAST, GREATEST};

  /**
   * SHELF 0 holds the bytes 11 12 13, 1 the ASK 0 (of PARISH 4), 2 NOTHING, 3 a ROW of none, 4 the
   * shorts 21 22 23, 7 five bytes.
   */
  static final Supplier<Books> SHELVED = Books.country(x -> {
    x.put(0, 0, 11, 12, 13);
    x.writes(4, 1, 1, 1);
    x.show(1, 0);
    x.row(3, 0, 0);
    x.put(4, 1, 21, 22, 23);
    x.put(7, 0, 1, 2, 3, 4, 5);
  });

  EdgesOfShelves(Sentences document) {
    super(document);
  }

  @Override
  void run() {
    termsOfShelves();
    lowestBits();
    row();
    set();
    copyIs();
    copyIsRefused();
    copyBeyond();
    element();
    show();
    holds();
    saysWhat();
    saysIsRefused();
  }

  private void termsOfShelves() {
    terms(1);
    edge("SHELVES 0 to 7 hold NOTHING (at first), a ROW, or an ASK (as it is)", () -> {
      Books x = Books.country();
      for (int s = 0; s < 8; s++) {
        is("at first", x.holds(s), -1);
      }
      x.writes(4, 0, 0, 5);
      is("SHELF 0", x.row(0, 1, 1), 1);
      is("SHELF 7", x.show(7, 0), 1);
      is("a ROW", x.holds(0), 1001);
      is("an ASK", x.holds(7), 0);
      is("SHELF 8", x.row(8, 0, 0), -1);
      is("SHELF -1", x.show(-1, 0), -1);
      x.make(2);
      x.person(4, 0);
      x.chooses(4, 0);
      x.chooses(2, 0);
      x.show(7, 1);
      is("not BOUND", x.says(7, 3), -2);
      x.bind(1);
      is("BOUND since: as it is", x.says(7, 3), 101);
    });
    edge("A ROW has a SORT (0 bytes, 1 shorts, 2 ints, 3 longs) and 0 to 60 elements, 0 at first", () -> {
      Books x = new Books();
      for (int sort = 0; sort < 4; sort++) {
        is("none", x.row(0, sort, 0), 1);
        is("none there", x.set(0, 0, 1), -5);
        is("60", x.row(0, sort, 60), 1);
        is("the SORT", x.holds(0), 1000 + sort);
        for (int i = 0; i < 60; i++) {
          is("0 at first", x.element(0, i), 0);
        }
        is("the 60th", x.set(0, 59, 1), 1);
        is("no 61st", x.set(0, 60, 1), -5);
      }
      is("61", x.row(0, 0, 61), -7);
      is("-1", x.row(0, 0, -1), -4);
      is("SORT 4", x.row(0, 4, 1), -6);
      is("SORT -1", x.row(0, -1, 1), -6);
    });
  }

  private void lowestBits() {
    edge("what is put in keeps its lowest bits", () -> {
      long[] in = {127, 128, 255, 256, -128, -129, 32767, 32768, 65535, 65536, -32768, -32769,
        (1L << 31) - 1, 1L << 31, (1L << 32) - 1, 1L << 32, -(1L << 31), -(1L << 31) - 1,
        Long.MAX_VALUE, Long.MIN_VALUE, -1, 0};
      Books x = new Books();
      for (int sort = 0; sort < 4; sort++) {
        x.row(sort, sort, in.length);
        for (int i = 0; i < in.length; i++) {
          is("set " + in[i], x.set(sort, i, in[i]), 1);
        }
      }
      for (int i = 0; i < in.length; i++) {
        is("byte of " + in[i], x.element(0, i), (byte) in[i]);
        is("short of " + in[i], x.element(1, i), (short) in[i]);
        is("int of " + in[i], x.element(2, i), (int) in[i]);
        is("long of " + in[i], x.element(3, i), in[i]);
      }
    });
  }

  private void row() {
    promise(7);
    edge("SHELF s holds a new ROW: 1", () -> {
      Books x = SHELVED.get();
      is("in place of an ASK", x.row(1, 2, 5), 1);
      is("it holds it", x.holds(1), 1002);
      is("in place of NOTHING", x.row(2, 0, 60), 1);
      is("it holds it", x.holds(2), 1000);
      is("in place of a ROW", x.row(0, 0, 3), 1);
      is("a new one", x.element(0, 0), 0);
      is("a new one", x.element(0, 2), 0);
      is("a shorter one", x.row(0, 0, 2), 1);
      is("shorter", x.set(0, 2, 1), -5);
    });
    edge("-1", () -> {
      for (int s : NO_SHELVES) {
        refused("SHELF " + s, -1, SHELVED, x -> x.row(s, 0, 1));
      }
    });
    edge("-4", () -> {
      refused("-1", -4, SHELVED, x -> x.row(0, 0, -1));
      refused("the least", -4, SHELVED, x -> x.row(2, 0, LEAST));
    });
    edge("-6 SORT", () -> {
      for (int sort : new int[] {-1, 4, LEAST, GREATEST}) {
        refused("SORT " + sort, -6, SHELVED, x -> x.row(0, sort, 1));
      }
    });
    edge("-7 n above 60", () -> {
      is("60", SHELVED.get().row(0, 0, 60), 1);
      refused("61", -7, SHELVED, x -> x.row(0, 0, 61));
      refused("the greatest", -7, SHELVED, x -> x.row(1, 3, GREATEST));
    });
  }

  private void set() {
    promise(8);
    edge("Element i of the ROW becomes v: 1", () -> {
      Books x = SHELVED.get();
      is("the first", x.set(0, 0, 5), 1);
      is("the last", x.set(0, 2, -6), 1);
      is("it is v", x.element(0, 0), 5);
      is("others stay", x.element(0, 1), 12);
      is("it is v", x.element(0, 2), -6);
      is("another SHELF's stays", x.element(4, 0), 21);
    });
    edge("-1", () -> {
      for (int s : NO_SHELVES) {
        refused("SHELF " + s, -1, SHELVED, x -> x.set(s, 0, 1));
      }
    });
    edge("-2", () -> refused("an ASK", -2, SHELVED, x -> x.set(1, 0, 1)));
    edge("-3", () -> refused("NOTHING", -3, SHELVED, x -> x.set(2, 0, 1)));
    edge("-5", () -> {
      for (int i : new int[] {-1, 3, LEAST, GREATEST}) {
        refused("element " + i, -5, SHELVED, x -> x.set(0, i, 1));
      }
      refused("a ROW of none", -5, SHELVED, x -> x.set(3, 0, 1));
    });
  }

  private void isRow(String what, Books x, int s, long... elements) {
    for (int i = 0; i < elements.length; i++) {
      is(what + ", element " + i, x.element(s, i), elements[i]);
    }
    is(what + ", no more", x.element(s, elements.length), 0);
  }

  private void copyIs() {
    promise(9);
    edge("Elements i, i + 1, .. of the ROW in SHELF p, n of them, come to elements j, j + 1, .. of that in q", () -> {
      Books x = SHELVED.get();
      is("two of three", x.copy(0, 7, 1, 2, 2), 1);
      isRow("they came", x, 7, 1, 2, 12, 13, 5);
      isRow("p stays", x, 0, 11, 12, 13);
      is("all of three, to the end", x.copy(0, 7, 0, 2, 3), 1);
      isRow("they came", x, 7, 1, 2, 11, 12, 13);
      is("the last to the first", x.copy(7, 0, 4, 0, 1), 1);
      isRow("it came", x, 0, 13, 12, 13);
      is("none", x.copy(7, 0, 0, 0, 0), 1);
      is("none, at the ends", x.copy(7, 0, 5, 3, 0), 1);
      is("none of none", x.copy(3, 3, 0, 0, 0), 1);
      isRow("none came", x, 0, 13, 12, 13);
    });
    edge("(as they were ahead): 1", () -> {
      Books x = SHELVED.get();
      is("one on", x.copy(7, 7, 0, 1, 4), 1);
      isRow("one on", x, 7, 1, 1, 2, 3, 4);
      is("two back", x.copy(7, 7, 2, 0, 3), 1);
      isRow("two back", x, 7, 2, 3, 4, 3, 4);
      is("to themselves", x.copy(7, 7, 0, 0, 5), 1);
      isRow("to themselves", x, 7, 2, 3, 4, 3, 4);
    });
  }

  private void copyIsRefused() {
    edge("-1", () -> {
      for (int s : NO_SHELVES) {
        refused("from " + s, -1, SHELVED, x -> x.copy(s, 0, 0, 0, 1));
        refused("to " + s, -1, SHELVED, x -> x.copy(0, s, 0, 0, 1));
      }
    });
    edge("-2 also of two SORTS (when both hold something)", () -> {
      refused("from an ASK", -2, SHELVED, x -> x.copy(1, 0, 0, 0, 1));
      refused("to an ASK", -2, SHELVED, x -> x.copy(0, 1, 0, 0, 1));
      refused("of two SORTS", -2, SHELVED, x -> x.copy(0, 4, 0, 0, 1));
      refused("of two SORTS, none", -2, SHELVED, x -> x.copy(4, 3, 0, 0, 0));
      for (int a = 0; a < 4; a++) {
        for (int b = 0; b < 4; b++) {
          Books x = new Books();
          x.row(0, a, 1);
          x.row(1, b, 1);
          is("of SORTS " + a + " and " + b, x.copy(0, 1, 0, 0, 1), a == b ? 1 : -2);
        }
      }
    });
    edge("-3 either", () -> {
      refused("from NOTHING", -3, SHELVED, x -> x.copy(2, 0, 0, 0, 1));
      refused("to NOTHING", -3, SHELVED, x -> x.copy(0, 2, 0, 0, 1));
      refused("to NOTHING, shorts", -3, SHELVED, x -> x.copy(4, 2, 0, 0, 0));
      refused("both", -3, SHELVED, x -> x.copy(2, 2, 0, 0, 0));
    });
    edge("-4 n", () -> {
      refused("-1", -4, SHELVED, x -> x.copy(0, 7, 0, 0, -1));
      refused("the least", -4, SHELVED, x -> x.copy(0, 7, 0, 0, LEAST));
    });
  }

  private void copyBeyond() {
    edge("-5 i or j below 0, or an end that isn't there", () -> {
      for (int i : new int[] {-1, LEAST}) {
        refused("i " + i, -5, SHELVED, x -> x.copy(0, 7, i, 0, 1));
        refused("j " + i, -5, SHELVED, x -> x.copy(0, 7, 0, i, 1));
        refused("i " + i + ", none", -5, SHELVED, x -> x.copy(0, 7, i, 0, 0));
        refused("j " + i + ", none", -5, SHELVED, x -> x.copy(0, 7, 0, i, 0));
      }
      refused("the end of p", -5, SHELVED, x -> x.copy(0, 7, 1, 0, 3));
      refused("the end of q", -5, SHELVED, x -> x.copy(7, 0, 0, 1, 3));
      refused("more than p has", -5, SHELVED, x -> x.copy(0, 7, 0, 0, 4));
      refused("more than q has", -5, SHELVED, x -> x.copy(7, 0, 0, 0, 4));
      refused("none, behind the end of p", -5, SHELVED, x -> x.copy(0, 7, 4, 0, 0));
      refused("none, behind the end of q", -5, SHELVED, x -> x.copy(7, 0, 0, 4, 0));
      refused("one of none", -5, SHELVED, x -> x.copy(3, 7, 0, 0, 1));
      refused("one to none", -5, SHELVED, x -> x.copy(7, 3, 0, 0, 1));
      refused("the greatest n", -5, SHELVED, x -> x.copy(0, 7, 0, 0, GREATEST));
      refused("the greatest i", -5, SHELVED, x -> x.copy(0, 7, GREATEST, 0, 1));
      refused("the greatest j", -5, SHELVED, x -> x.copy(0, 7, 0, GREATEST, 1));
      refused("the greatest all", -5, SHELVED, x -> x.copy(0, 7, GREATEST, GREATEST, GREATEST));
      Books x = new Books();
      x.row(0, 0, 60);
      is("60", x.copy(0, 0, 0, 0, 60), 1);
      is("61", x.copy(0, 0, 0, 0, 61), -5);
      is("60 from 1", x.copy(0, 0, 1, 0, 60), -5);
    });
  }

  private void element() {
    promise(10);
    edge("Element i of the ROW", () -> {
      Books x = SHELVED.get();
      is("the first", x.element(0, 0), 11);
      is("the last", x.element(0, 2), 13);
      x.put(2, 3, Long.MIN_VALUE, Long.MAX_VALUE);
      is("the least long", x.element(2, 0), Long.MIN_VALUE);
      is("the greatest long", x.element(2, 1), Long.MAX_VALUE);
      onlyTells("of bytes", 12, SHELVED, y -> y.element(0, 1));
    });
    edge("0 if there is none (nothing is refused)", () -> {
      for (int i : new int[] {-1, 3, LEAST, GREATEST}) {
        onlyTells("element " + i, 0, SHELVED, x -> x.element(0, i));
      }
      onlyTells("of a ROW of none", 0, SHELVED, x -> x.element(3, 0));
      onlyTells("of an ASK", 0, SHELVED, x -> x.element(1, 0));
      onlyTells("of NOTHING", 0, SHELVED, x -> x.element(2, 0));
      for (int s : NO_SHELVES) {
        onlyTells("of SHELF " + s, 0, SHELVED, x -> x.element(s, 0));
      }
      Books x = SHELVED.get();
      x.show(0, 0);
      is("of a ROW that is gone", x.element(0, 0), 0);
      x.row(2, 3, 60);
      x.set(2, 59, 7);
      is("the 60th", x.element(2, 59), 7);
      is("no 61st", x.element(2, 60), 0);
    });
  }

  private void show() {
    promise(11);
    edge("SHELF s holds an ASK: 1", () -> {
      Books x = SHELVED.get();
      is("in place of NOTHING", x.show(2, 0), 1);
      is("it holds it", x.holds(2), 0);
      is("in place of a ROW", x.show(0, 0), 1);
      is("it holds it", x.holds(0), 0);
      x.writes(5, 1, 1, 1);
      is("in place of an ASK", x.show(0, 1), 1);
      is("the last ASK", x.holds(0), 1);
    });
    edge("NOTHING (ask NONE): 0", () -> {
      Books x = SHELVED.get();
      is("in place of an ASK", x.show(1, -1), 0);
      is("NOTHING", x.says(1, 0), -3);
      is("in place of a ROW", x.show(0, -1), 0);
      is("NOTHING", x.set(0, 0, 1), -3);
      is("in place of NOTHING", x.show(2, -1), 0);
      is("NOTHING", x.holds(2), -1);
      is("without any ASK", new Books().show(0, -1), 0);
    });
    edge("-1 either", () -> {
      for (int s : NO_SHELVES) {
        refused("SHELF " + s, -1, SHELVED, x -> x.show(s, 0));
        refused("NOTHING in SHELF " + s, -1, SHELVED, x -> x.show(s, -1));
      }
      for (int ask : new int[] {-2, 1, LEAST, GREATEST}) {
        refused("ASK " + ask, -1, SHELVED, x -> x.show(0, ask));
      }
      refused("ASK 0 of none", -1, Books.bare(x -> { }), x -> x.show(0, 0));
    });
  }

  private void holds() {
    promise(12);
    edge("What SHELF s holds: NONE NOTHING, or no such SHELF", () -> {
      onlyTells("NOTHING", -1, SHELVED, x -> x.holds(2));
      for (int s : NO_SHELVES) {
        onlyTells("SHELF " + s, -1, SHELVED, x -> x.holds(s));
      }
    });
    edge("the number of an ASK", () -> {
      onlyTells("ASK 0", 0, SHELVED, x -> x.holds(1));
      Books x = Books.country();
      x.row(0, 0, 0);
      for (int i = 0; i < 160; i++) {
        x.write(4 + i / 128, i / 8 % 16, i % 8, 0, 0);
      }
      x.show(0, 159);
      is("the last ASK", x.holds(0), 159);
    });
    edge("1,000 and the SORT of a ROW", () -> {
      for (int sort = 0; sort < 4; sort++) {
        Books x = new Books();
        x.row(7, sort, 60 * (sort % 2));
        is("of SORT " + sort, x.holds(7), 1000 + sort);
      }
    });
  }

  /** SHELVES 0 to 3 hold an ASK of each KIND: MUCH 10, 11, 12, 13, LIKENESS 4, 2 PARTS, 1 PART. */
  static final Supplier<Books> KINDS = Books.country(x -> {
    x.writes(6, 1, 0, 10);
    x.put(0, 0, 1, 2, 3, 4);
    x.model(2, 0, 7);
    x.write(7, 2, 0, 11, 0);
    x.writes(4, 3, 0, 12);
    x.writes(5, 3, 0, 5);
    x.writes(5, 4, 0, 13);
    x.make(2);
    x.person(4, 0);
    x.chooses(4, 0);
    x.chooses(2, 0);
    x.bind(6);
    x.show(0, 0);
    x.show(1, 1);
    x.show(2, 5);
    x.show(3, 6);
  });

  private void saysWhat() {
    promise(13);
    edge("What the ASK in SHELF s, taken for one of a KIND, says: ASK: MUCH", () -> {
      for (int s = 0; s < 4; s++) {
        is("MUCH of KIND " + s, KINDS.get().says(s, 0), 10 + s);
      }
    });
    edge("BORROWED: LIKENESS to its MODEL", () -> onlyTells("LIKENESS", 4, KINDS, x -> x.says(1, 1)));
    edge("MERGED: how many PARTS", () -> {
      is("of MERGED", KINDS.get().says(2, 2), 2);
      is("of BOUND", KINDS.get().says(3, 2), 1);
    });
    edge("BOUND: 100 and that", () -> onlyTells("of BOUND", 101, KINDS, x -> x.says(3, 3)));
  }

  private void saysIsRefused() {
    edge("-1 SHELF, KIND", () -> {
      for (int s : NO_SHELVES) {
        refused("SHELF " + s, -1, KINDS, x -> x.says(s, 0));
      }
      for (int kind : new int[] {-1, 4, LEAST, GREATEST}) {
        refused("KIND " + kind, -1, KINDS, x -> x.says(3, kind));
      }
    });
    edge("-2 also if it is of no such KIND (nor of one under it)", () -> {
      refused("a ROW", -2, SHELVED, x -> x.says(0, 0));
      refused("a ROW of none", -2, SHELVED, x -> x.says(3, 3));
      int[][] not = {{0, 1}, {0, 2}, {0, 3}, {1, 2}, {1, 3}, {2, 1}, {2, 3}, {3, 1}};
      for (int[] pair : not) {
        refused("of KIND " + pair[0] + " for " + pair[1], -2, KINDS, x -> x.says(pair[0], pair[1]));
      }
    });
    edge("-3", () -> {
      for (int kind = 0; kind < 4; kind++) {
        int of = kind;
        refused("NOTHING for KIND " + kind, -3, SHELVED, x -> x.says(2, of));
      }
    });
  }
}

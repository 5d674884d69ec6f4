/** What many tests begin with. */
final class Setup {
  private Setup() {
  }

  /** THE TOP 0; SHIRE 1 (3 DAYS); DISTRICTS 2 (2) and 3 (4); PARISHES 4, 5 under 2, and 6, 7 under 3. */
  static ComplaintBooks country() {
    ComplaintBooks x = new ComplaintBooks();
    x.place(0, 3);
    x.place(1, 2);
    x.place(1, 4);
    x.parish(2, 1, 0, 50);
    x.parish(2, 2, 1, 30);
    x.parish(3, 1, 2, 70);
    x.parish(3, 5, 0, 20);
    return x;
  }

  /** SHELF s holds a ROW of that SORT with these elements. */
  static void row(ComplaintBooks x, int s, int sort, long... elements) {
    x.row(s, sort, elements.length);
    for (int i = 0; i < elements.length; i++) {
      x.set(s, i, elements[i]);
    }
  }

  /** SHELF s holds a ROW of bytes with these letters. */
  static void text(ComplaintBooks x, int s, String letters) {
    long[] elements = new long[letters.length()];
    for (int i = 0; i < elements.length; i++) {
      elements[i] = letters.charAt(i);
    }
    row(x, s, 0, elements);
  }

  /** A RULE with this text: what rule() answers. */
  static int rule(ComplaintBooks x, int level, int day, String letters) {
    text(x, 7, letters);
    return x.rule(level, day, 7);
  }

  /** An ASK with the WORDS 1 2 3: what write() answers. */
  static int ask(ComplaintBooks x, int place, int what, int whom, int much) {
    row(x, 6, 0, 1, 2, 3);
    return x.write(place, what, whom, much, 6);
  }

  /** How many REFUSALS of this number there were. */
  static int refusals(ComplaintBooks x, int refusal) {
    return x.status(10 - refusal);
  }
}

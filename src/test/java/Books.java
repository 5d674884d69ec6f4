import java.util.function.Consumer;
import java.util.function.Supplier;

/**
 * A ComplaintBooks that lets itself be called no more often than the document allows, and what the
 * tests of edges often do with one. SHELVES 5, 6 and 7 are for votes, WORDS and RULES.
 */
final class Books {
  private static final int MOST_CALLS = 512;

  private final ComplaintBooks books = new ComplaintBooks();
  private int calls;
  private boolean wordsAreThere;

  /** A new object after these calls, a like one each time. */
  static Supplier<Books> bare(Consumer<Books> calls) {
    return () -> {
      Books x = new Books();
      calls.accept(x);
      return x;
    };
  }

  /** The same after those of country(). */
  static Supplier<Books> country(Consumer<Books> calls) {
    return () -> {
      Books x = country();
      calls.accept(x);
      return x;
    };
  }

  /**
   * THE TOP 0; SHIRE 1 (3 DAYS); DISTRICTS 2 (2) and 3 (4); PARISHES 4 (1 DAY, ORDER 0, 50 HEARTHS)
   * and 5 (2, 1, 30) under 2, 6 (1, 2, 70) and 7 (5, 0, 20) under 3.
   */
  static Books country() {
    Books x = new Books();
    x.place(0, 3);
    x.place(1, 2);
    x.place(1, 4);
    x.parish(2, 1, 0, 50);
    x.parish(2, 2, 1, 30);
    x.parish(3, 1, 2, 70);
    x.parish(3, 5, 0, 20);
    return x;
  }

  int callsLeft() {
    return MOST_CALLS - calls;
  }

  private ComplaintBooks next() {
    calls++;
    if (calls > MOST_CALLS) {
      throw new IllegalStateException("more than " + MOST_CALLS + " calls: what they answer is free");
    }
    return books;
  }

  // ---- what tests often do ----

  /** SHELF s holds a ROW of that SORT with these elements. */
  void put(int s, int sort, long... elements) {
    row(s, sort, elements.length);
    for (int i = 0; i < elements.length; i++) {
      set(s, i, elements[i]);
    }
  }

  /** SHELF s holds a ROW of bytes with these letters. */
  void text(int s, String letters) {
    put(s, 0, letters.chars().asLongStream().toArray());
  }

  /** A RULE with this text: what rule() answers. */
  int law(int level, int day, String letters) {
    text(7, letters);
    return rule(level, day, 7);
  }

  /** An ASK with the WORDS 1 2 3: what write() answers. */
  int writes(int place, int what, int whom, int much) {
    if (!wordsAreThere) {
      put(6, 0, 1, 2, 3);
      wordsAreThere = true;
    }
    return write(place, what, whom, much, 6);
  }

  /** The CHOICE of a PLACE by these votes: what choose() answers. */
  int chooses(int place, long... votes) {
    put(5, 2, votes);
    return choose(place, 5);
  }

  /** Whether no two CLASH without these: what judge() answers. */
  int judges(int place, long... without) {
    put(5, 2, without);
    return judge(place, 5);
  }

  // ---- the document's face ----

  int place(int under, int days) {
    return next().place(under, days);
  }

  int parish(int under, int days, int order, int hearths) {
    return next().parish(under, days, order, hearths);
  }

  int path(int a, int b) {
    return next().path(a, b);
  }

  int days(int n) {
    return next().days(n);
  }

  int about(int place, int what) {
    return next().about(place, what);
  }

  int row(int s, int sort, int n) {
    return next().row(s, sort, n);
  }

  int set(int s, int i, long v) {
    return next().set(s, i, v);
  }

  int copy(int p, int q, int i, int j, int n) {
    return next().copy(p, q, i, j, n);
  }

  long element(int s, int i) {
    return next().element(s, i);
  }

  int show(int s, int ask) {
    return next().show(s, ask);
  }

  int holds(int s) {
    return next().holds(s);
  }

  int says(int s, int kind) {
    return next().says(s, kind);
  }

  int model(int what, int s, int place) {
    return next().model(what, s, place);
  }

  int reaches(int model, int place) {
    return next().reaches(model, place);
  }

  int write(int place, int what, int whom, int much, int s) {
    return next().write(place, what, whom, much, s);
  }

  int withdraw(int ask) {
    return next().withdraw(ask);
  }

  int tear(int place, int i) {
    return next().tear(place, i);
  }

  int ask(int ask, int what) {
    return next().ask(ask, what);
  }

  int likeness(int ask, int model) {
    return next().likeness(ask, model);
  }

  int chance(int ask, boolean of) {
    return next().chance(ask, of);
  }

  int less(int ask) {
    return next().less(ask);
  }

  int part(int ask, int i) {
    return next().part(ask, i);
  }

  int end(int ask) {
    return next().end(ask);
  }

  int lost(int ask) {
    return next().lost(ask);
  }

  int book(int place, int i) {
    return next().book(place, i);
  }

  int rule(int level, int day, int s) {
    return next().rule(level, day, s);
  }

  int fault() {
    return next().fault();
  }

  int strike(int rule) {
    return next().strike(rule);
  }

  int force(int level, int day) {
    return next().force(level, day);
  }

  int vote(int place, int what, int n) {
    return next().vote(place, what, n);
  }

  int make(int place) {
    return next().make(place);
  }

  int count(int what, int whom, int order, boolean most) {
    return next().count(what, whom, order, most);
  }

  int asked(int what, int whom, int a, int place, int k) {
    return next().asked(what, whom, a, place, k);
  }

  int person(int place, int born) {
    return next().person(place, born);
  }

  int choose(int place, int s) {
    return next().choose(place, s);
  }

  int unchoose(int place) {
    return next().unchoose(place);
  }

  int bind(int ask) {
    return next().bind(ask);
  }

  int unbind(int ask) {
    return next().unbind(ask);
  }

  int give(int ask) {
    return next().give(ask);
  }

  int clash(int a, int b, boolean is) {
    return next().clash(a, b, is);
  }

  int leave(int place) {
    return next().leave(place);
  }

  int judge(int place, int s) {
    return next().judge(place, s);
  }

  int best(int place, int space) {
    return next().best(place, space);
  }

  int bestOf(int i) {
    return next().bestOf(i);
  }

  int said(int place) {
    return next().said(place);
  }

  int other(int mode, int i) {
    return next().other(mode, i);
  }

  int status(int what) {
    return next().status(what);
  }
}

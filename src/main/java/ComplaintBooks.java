import java.util.Arrays;

/**
 * Books of complaints: what parishes ask, the one book that districts, shires and the top make of
 * many, the deputies who speak for it, and what clashes in it.
 */
public final class ComplaintBooks {
  public static final int NONE = -1;

  // REFUSALS
  private static final int FINE = 0;
  private static final int NOBODY = -1;
  private static final int OTHER = -2;
  private static final int NOTHING = -3;
  private static final int BELOW = -4;
  private static final int BEYOND = -5;
  private static final int WRONG = -6;
  private static final int ROOM = -7;
  private static final int REFUSALS = 7;

  // LEVELS
  private static final int PARISH = 0;
  private static final int DISTRICT = 1;
  private static final int TOP = 3;
  private static final int LEVELS = 4;

  // KINDS
  private static final int ASK = 0;
  private static final int BORROWED = 1;
  private static final int MERGED = 2;
  private static final int BOUND = 3;
  private static final int KINDS = 4;

  // what may be at most
  private static final int MOST_PLACES = 24;
  private static final int MOST_WAY = 99;
  private static final int MOST_HEARTHS = 999;
  private static final int MOST_STEP = 400;
  private static final int LAST_DAY = 4000;
  private static final int MOST_ELEMENTS = 60;
  private static final int MOST_ASKS = 160;
  private static final int MOST_MUCH = 99;
  private static final int MOST_WORDS = 20;
  private static final int MOST_MODELS = 8;
  private static final int MOST_RULES = 12;
  private static final int MOST_YES = 99;
  private static final int MOST_PERSONS = 20;
  private static final int LAST_BORN = 9999;
  private static final int MOST_SPACE = 12;
  private static final int MOST_QUARREL = 12;
  private static final int MOST_BEST_GROUPS = 10;
  private static final int MOST_OTHERS = 16;

  private static final int SHELVES = 8;
  private static final int BYTES = 0;
  private static final int SHORTS = 1;
  private static final int INTS = 2;
  private static final int LONGS = 3;
  private static final int ROW_BASE = 1000;
  private static final int ORDERS = 3;
  private static final int WHATS = 16;
  private static final int WHOMS = 8;
  private static final int LEAST_BORROWED = 3;
  private static final int BOUND_BASE = 100;
  private static final int NO_LESS = 1000;
  private static final int FULL = 100;

  // how PARTS are joined, by the letters of RULES
  private static final int GREATEST = 'x';
  private static final int LEAST = 'l';
  private static final int MIDDLE = 'c';

  // FIELDS of a group, each at the place of its letter
  private static final String FIELDS = "nbhtmwdy";
  private static final int FIELD_BOOKS = 0;
  private static final int FIELD_PLACES = 1;
  private static final int FIELD_HEARTHS = 2;
  private static final int FIELD_ALL_HEARTHS = 3;
  private static final int FIELD_MUCH = 4;
  private static final int FIELD_WHAT = 5;
  private static final int FIELD_NOW = 6;
  private static final int FIELD_YES = 7;

  private final Place[] places = new Place[MOST_PLACES];
  private final Shelf[] shelves = new Shelf[SHELVES];
  private final Ask[] asks = new Ask[MOST_ASKS];
  private final Model[] models = new Model[MOST_MODELS];
  private final Rule[] rules = new Rule[MOST_RULES];
  private final Person[] persons = new Person[MOST_PERSONS];
  private final int[] refusals = new int[REFUSALS];
  private final int[] likenessLine = new int[MOST_WORDS + 1];
  private final RuleReader reader = new RuleReader();
  private final Groups groups = new Groups();
  private final Quarrel quarrel = new Quarrel();
  private final BestBook bestBook = new BestBook();
  private int placeCount;
  private int askCount;
  private int modelCount;
  private int ruleCount;
  private int personCount;
  private int now;
  private int latestFault = NONE;

  public ComplaintBooks() {
    for (int i = 0; i < SHELVES; i++) {
      shelves[i] = new Shelf();
    }
    places[0] = new Place(0, null, 0, NONE, 0);
    placeCount = 1;
  }

  // ---- PLACES, DAYS ----

  public int place(int under, int days) {
    Place above = placeAt(under);
    if (above == null) {
      return refuse(NOBODY);
    }
    if (!isIn(days, 0, MOST_WAY) || above.level <= DISTRICT) {
      return refuse(WRONG);
    }
    if (placeCount >= MOST_PLACES) {
      return refuse(ROOM);
    }
    return settle(above, days, NONE, 0);
  }

  public int parish(int under, int days, int order, int hearths) {
    Place above = placeAt(under);
    if (above == null) {
      return refuse(NOBODY);
    }
    boolean right = isIn(days, 0, MOST_WAY) && isIn(order, 0, ORDERS - 1)
        && isIn(hearths, 1, MOST_HEARTHS);
    if (!right || above.level != DISTRICT) {
      return refuse(WRONG);
    }
    if (placeCount >= MOST_PLACES) {
      return refuse(ROOM);
    }
    return settle(above, days, order, hearths);
  }

  public int path(int a, int b) {
    Place from = placeAt(a);
    Place to = placeAt(b);
    return from == null || to == null ? NONE : wayBetween(from, to);
  }

  public int days(int n) {
    if (!isIn(n, 1, MOST_STEP) || now + n > LAST_DAY) {
      return refuse(WRONG);
    }
    now += n;
    return now;
  }

  public int about(int place, int what) {
    Place p = placeAt(place);
    if (p == null) {
      return NONE;
    }
    switch (what) {
      case 0: return p.level;
      case 1: return p.under == null ? NONE : p.under.number;
      case 2: return p.order;
      case 3: return p.hearths;
      case 4: return sizeOfBook(p);
      case 5: return bit(p.made);
      case 6: return p.choice == null ? NONE : p.choice.number;
      case 7: return p.torn;
      default: return NONE;
    }
  }

  private int settle(Place above, int days, int order, int hearths) {
    int number = placeCount;
    places[number] = new Place(number, above, days, order, hearths);
    placeCount++;
    above.below++;
    for (Place at = above; at != null; at = at.under) {
      at.hearths += hearths;
    }
    return number;
  }

  private static int wayBetween(Place a, Place b) {
    Place from = a;
    Place to = b;
    int sum = 0;
    for (int i = 0; i < 2 * LEVELS && from != null && to != null && from != to; i++) {
      if (from.level <= to.level) {
        sum += from.way;
        from = from.under;
      } else {
        sum += to.way;
        to = to.under;
      }
    }
    return sum;
  }

  // ---- SHELVES ----

  public int row(int s, int sort, int n) {
    Shelf shelf = shelfAt(s);
    if (shelf == null) {
      return refuse(NOBODY);
    }
    if (n < 0) {
      return refuse(BELOW);
    }
    if (!isIn(sort, BYTES, LONGS)) {
      return refuse(WRONG);
    }
    if (n > MOST_ELEMENTS) {
      return refuse(ROOM);
    }
    shelf.takeRow(sort, n);
    return 1;
  }

  public int set(int s, int i, long v) {
    Shelf shelf = shelfAt(s);
    int trouble = rowTrouble(shelf);
    if (shelf == null || trouble != FINE) {
      return refuse(trouble);
    }
    if (!isIn(i, 0, shelf.size - 1)) {
      return refuse(BEYOND);
    }
    shelf.elements[i] = narrowed(shelf.sort, v);
    return 1;
  }

  public int copy(int p, int q, int i, int j, int n) {
    Shelf from = shelfAt(p);
    Shelf to = shelfAt(q);
    if (from == null || to == null) {
      return refuse(NOBODY);
    }
    if (from.ask != null || to.ask != null) {
      return refuse(OTHER);
    }
    if (from.hasRow() && to.hasRow() && from.sort != to.sort) {
      return refuse(OTHER);
    }
    if (!from.hasRow() || !to.hasRow()) {
      return refuse(NOTHING);
    }
    if (n < 0) {
      return refuse(BELOW);
    }
    if (!isIn(i, 0, from.size - n) || !isIn(j, 0, to.size - n)) {
      return refuse(BEYOND);
    }
    System.arraycopy(from.elements, i, to.elements, j, n);
    return 1;
  }

  public long element(int s, int i) {
    Shelf shelf = shelfAt(s);
    if (shelf == null || !shelf.hasRow() || !isIn(i, 0, shelf.size - 1)) {
      return 0;
    }
    return shelf.elements[i];
  }

  public int show(int s, int ask) {
    Shelf shelf = shelfAt(s);
    Ask shown = askAt(ask);
    if (shelf == null || (shown == null && ask != NONE)) {
      return refuse(NOBODY);
    }
    shelf.takeAsk(shown);
    return bit(shown != null);
  }

  public int holds(int s) {
    Shelf shelf = shelfAt(s);
    if (shelf == null) {
      return NONE;
    }
    if (shelf.ask != null) {
      return shelf.ask.number;
    }
    return shelf.hasRow() ? ROW_BASE + shelf.sort : NONE;
  }

  public int says(int s, int kind) {
    Shelf shelf = shelfAt(s);
    if (shelf == null || !isIn(kind, 0, KINDS - 1)) {
      return refuse(NOBODY);
    }
    if (shelf.hasRow()) {
      return refuse(OTHER);
    }
    Ask a = shelf.ask;
    if (a == null) {
      return refuse(NOTHING);
    }
    if (!a.isOf(kind)) {
      return refuse(OTHER);
    }
    switch (kind) {
      case BORROWED: return a.likeness;
      case MERGED: return a.partCount();
      case BOUND: return BOUND_BASE + a.partCount();
      default: return a.much;
    }
  }

  private static int rowTrouble(Shelf shelf) {
    if (shelf == null) {
      return NOBODY;
    }
    if (shelf.ask != null) {
      return OTHER;
    }
    return shelf.hasRow() ? FINE : NOTHING;
  }

  private static long narrowed(int sort, long v) {
    switch (sort) {
      case BYTES: return (byte) v;
      case SHORTS: return (short) v;
      case INTS: return (int) v;
      default: return v;
    }
  }

  // ---- MODELS ----

  public int model(int what, int s, int place) {
    Shelf shelf = shelfAt(s);
    Place p = placeAt(place);
    if (shelf == null || p == null) {
      return refuse(NOBODY);
    }
    int trouble = rowTrouble(shelf);
    if (trouble != FINE) {
      return refuse(trouble);
    }
    if (!isIn(what, 0, WHATS - 1) || shelf.size > MOST_WORDS) {
      return refuse(WRONG);
    }
    if (modelCount >= MOST_MODELS) {
      return refuse(ROOM);
    }
    int number = modelCount;
    models[number] = new Model(number, what, p, now, shelf.rowCopy());
    modelCount++;
    return number;
  }

  public int reaches(int model, int place) {
    Model m = modelAt(model);
    Place p = placeAt(place);
    return m == null || p == null ? NONE : dayOfReach(m, p);
  }

  public int likeness(int ask, int model) {
    Ask a = askAt(ask);
    Model m = modelAt(model);
    return a == null || m == null || a.words == null ? NONE : likeOnes(a.words, m.words);
  }

  public int chance(int ask, boolean of) {
    Ask a = askAt(ask);
    if (a == null || a.model == null) {
      return NONE;
    }
    int all = 0;
    int asLike = 0;
    for (int i = 0; i < askCount; i++) {
      Ask one = asks[i];
      if (one != a && one.words != null && one.what == a.what
          && dayOfReach(a.model, one.place) > one.day) {
        all++;
        asLike += bit(likeOnes(one.words, a.model.words) >= a.likeness);
      }
    }
    return of ? all : asLike;
  }

  private static int dayOfReach(Model model, Place place) {
    return model.day + wayBetween(model.place, place);
  }

  /** Both have at most MOST_WORDS elements, so that one line of the table is room enough. */
  private int likeOnes(long[] a, long[] b) {
    Arrays.fill(likenessLine, 0);
    int width = Math.min(b.length, MOST_WORDS);
    for (int i = 0; i < a.length; i++) {
      int across = 0;
      for (int j = 1; j <= width; j++) {
        int above = likenessLine[j];
        if (a[i] == b[j - 1]) {
          likenessLine[j] = across + 1;
        } else {
          likenessLine[j] = Math.max(above, likenessLine[j - 1]);
        }
        across = above;
      }
    }
    return likenessLine[width];
  }

  // ---- ASKS ----

  public int write(int place, int what, int whom, int much, int s) {
    Place p = placeAt(place);
    Shelf shelf = shelfAt(s);
    if (p == null || shelf == null) {
      return refuse(NOBODY);
    }
    int trouble = rowTrouble(shelf);
    if (trouble != FINE) {
      return refuse(trouble);
    }
    if (!isGroup(what, whom) || !isIn(much, 0, MOST_MUCH) || shelf.size > MOST_WORDS
        || !mayWrite(p, what, whom)) {
      return refuse(WRONG);
    }
    if (askCount >= MOST_ASKS) {
      return refuse(ROOM);
    }
    Ask a = new Ask(askCount, ASK, p, what, whom, much, now);
    a.words = shelf.rowCopy();
    a.hearths = p.hearths;
    a.late = p.under != null && p.under.made;
    borrow(a);
    return enter(a);
  }

  public int withdraw(int ask) {
    Ask a = askAt(ask);
    if (a == null) {
      return refuse(NOBODY);
    }
    if (a.place.level != PARISH || !a.stands()) {
      return refuse(WRONG);
    }
    a.withdrawn = now;
    return 1;
  }

  public int tear(int place, int i) {
    Place p = placeAt(place);
    if (p == null) {
      return refuse(NOBODY);
    }
    int size = sizeOfBook(p);
    if (p.level != PARISH || !isIn(i, 0, size) || p.torn != NONE
        || p.under == null || p.under.made) {
      return refuse(WRONG);
    }
    p.torn = i;
    int seen = 0;
    for (int n = 0; n < askCount; n++) {
      if (asks[n].place == p) {
        asks[n].gap = seen >= i;
        seen++;
      }
    }
    return size - i;
  }

  public int ask(int ask, int what) {
    Ask a = askAt(ask);
    if (a == null) {
      return NONE;
    }
    switch (what) {
      case 0: return a.kind;
      case 1: return a.place.number;
      case 2: return a.what;
      case 3: return a.whom;
      case 4: return a.much;
      case 5: return a.day;
      case 6: return bit(a.late);
      case 7: return bit(a.withdrawn != NONE);
      case 8: return bit(a.gap);
      case 9: return a.into == null ? NONE : a.into.number;
      case 10: return a.dropped == null ? NONE : a.dropped.number;
      case 11: return a.hearths;
      case 12: return a.model == null ? NONE : a.model.number;
      case 13: return bit(a.yielded);
      default: return NONE;
    }
  }

  public int less(int ask) {
    Ask a = askAt(ask);
    return a == null || a.into == null ? NO_LESS : a.much - a.into.much;
  }

  public int part(int ask, int i) {
    Ask a = askAt(ask);
    if (a == null || a.parts == null || !isIn(i, 0, a.parts.length - 1)) {
      return NONE;
    }
    return a.parts[i].number;
  }

  public int end(int ask) {
    Ask a = askAt(ask);
    return a == null ? NONE : lastOf(a).number;
  }

  public int lost(int ask) {
    Ask a = askAt(ask);
    if (a == null) {
      return NONE;
    }
    Place dropped = lastOf(a).dropped;
    return dropped == null ? NONE : dropped.number;
  }

  public int book(int place, int i) {
    Place p = placeAt(place);
    if (p == null || i < 0) {
      return NONE;
    }
    int left = i;
    for (int n = 0; n < askCount; n++) {
      if (asks[n].place == p) {
        if (left == 0) {
          return n;
        }
        left--;
      }
    }
    return NONE;
  }

  private boolean mayWrite(Place p, int what, int whom) {
    if (p.level != PARISH || p.torn != NONE) {
      return false;
    }
    for (int i = 0; i < askCount; i++) {
      if (asks[i].place == p && asks[i].stands() && asks[i].isFor(what, whom)) {
        return false;
      }
    }
    return true;
  }

  private void borrow(Ask a) {
    for (int i = 0; i < modelCount; i++) {
      Model m = models[i];
      if (m.what == a.what && dayOfReach(m, a.place) <= now) {
        int likeness = likeOnes(a.words, m.words);
        if (likeness >= LEAST_BORROWED && 2 * likeness >= a.words.length
            && likeness > a.likeness) {
          a.kind = BORROWED;
          a.model = m;
          a.likeness = likeness;
        }
      }
    }
  }

  private int enter(Ask a) {
    asks[askCount] = a;
    askCount++;
    return a.number;
  }

  private static Ask lastOf(Ask a) {
    Ask last = a;
    for (int i = 0; i < LEVELS && last.into != null; i++) {
      last = last.into;
    }
    return last;
  }

  private int sizeOfBook(Place p) {
    int size = 0;
    for (int i = 0; i < askCount; i++) {
      size += bit(asks[i].place == p);
    }
    return size;
  }

  private int standingIn(Place p) {
    int standing = 0;
    for (int i = 0; i < askCount; i++) {
      standing += bit(asks[i].place == p && asks[i].stands());
    }
    return standing;
  }

  // ---- RULES AND BOOKS ----

  public int rule(int level, int day, int s) {
    Shelf shelf = shelfAt(s);
    if (shelf == null || !isIn(level, DISTRICT, TOP)) {
      return refuse(NOBODY);
    }
    int trouble = rowTrouble(shelf);
    if (trouble != FINE) {
      return refuse(trouble);
    }
    if (!isIn(day, 0, LAST_DAY)) {
      return refuse(WRONG);
    }
    reader.takeLetters(shelf.elements, shelf.size);
    reader.readRule();
    latestFault = reader.faultAt;
    if (latestFault != NONE) {
      return refuse(WRONG);
    }
    if (ruleCount >= MOST_RULES) {
      return refuse(ROOM);
    }
    int number = ruleCount;
    rules[number] = new Rule(number, level, day, shelf.rowCopy());
    ruleCount++;
    return number;
  }

  public int fault() {
    return latestFault;
  }

  public int strike(int rule) {
    if (!isIn(rule, 0, ruleCount - 1)) {
      return refuse(NOBODY);
    }
    Rule r = rules[rule];
    if (r.struck != NONE) {
      return refuse(WRONG);
    }
    r.struck = now;
    return 1;
  }

  public int force(int level, int day) {
    Rule r = ruleInForce(level, day);
    return r == null ? NONE : r.number;
  }

  public int vote(int place, int what, int n) {
    Place p = placeAt(place);
    if (p == null) {
      return refuse(NOBODY);
    }
    if (!isIn(what, 0, WHATS - 1) || !isIn(n, 0, MOST_YES)) {
      return refuse(WRONG);
    }
    int was = p.yes[what];
    p.yes[what] = n;
    return was;
  }

  public int make(int place) {
    Place p = placeAt(place);
    if (p == null) {
      return refuse(NOBODY);
    }
    if (p.level == PARISH || p.made) {
      return refuse(WRONG);
    }
    gather(p);
    int kept = sift(p);
    if (askCount + kept > MOST_ASKS) {
      return refuse(ROOM);
    }
    for (int g = 0; g < groups.number; g++) {
      if (groups.joins[g] == NONE) {
        groups.dropAt(g, p);
      } else {
        merge(g, p);
      }
    }
    p.made = true;
    return kept;
  }

  public int said(int place) {
    Place p = placeAt(place);
    if (p == null || !p.made) {
      return NONE;
    }
    int sum = 0;
    for (int i = 0; i < askCount; i++) {
      Ask a = asks[i];
      if (a.into != null && a.into.place == p) {
        sum += a.saysAt(a.into.much);
      }
    }
    return sum;
  }

  private Rule ruleInForce(int level, int day) {
    Rule found = null;
    for (int i = 0; i < ruleCount; i++) {
      Rule r = rules[i];
      boolean struck = r.struck != NONE && r.struck <= day;
      if (r.level == level && r.day <= day && !struck && (found == null || r.day >= found.day)) {
        found = r;
      }
    }
    return found;
  }

  /** What stands in the BOOKS of PLACES under p, now, by groups. */
  private void gather(Place p) {
    groups.clear();
    for (int i = 0; i < askCount; i++) {
      if (asks[i].place.under == p && asks[i].stands()) {
        groups.add(asks[i]);
      }
    }
    groups.findStarts();
  }

  /** Tells each group how it is to be joined (NONE: not kept): how many are kept. */
  private int sift(Place p) {
    Rule r = ruleInForce(p.level, now);
    int kept = 0;
    for (int g = 0; g < groups.number; g++) {
      groups.joins[g] = GREATEST;
      if (r != null) {
        tellFields(p, g);
        reader.takeLetters(r.letters, r.letters.length);
        reader.readRule();
        groups.joins[g] = reader.keeps ? reader.join : NONE;
      }
      kept += bit(groups.joins[g] != NONE);
    }
    return kept;
  }

  private void tellFields(Place p, int g) {
    int what = groups.firstOf(g).what;
    reader.values[FIELD_BOOKS] = groups.sizeOf(g);
    reader.values[FIELD_PLACES] = p.below;
    reader.values[FIELD_HEARTHS] = groups.hearthsOf(g);
    reader.values[FIELD_ALL_HEARTHS] = p.hearths;
    reader.values[FIELD_MUCH] = groups.joined(g, GREATEST);
    reader.values[FIELD_WHAT] = what;
    reader.values[FIELD_NOW] = now;
    reader.values[FIELD_YES] = p.yes[what];
  }

  private void merge(int g, Place p) {
    Ask first = groups.firstOf(g);
    int much = groups.joined(g, groups.joins[g]);
    Ask merged = new Ask(askCount, MERGED, p, first.what, first.whom, much, now);
    merged.hearths = groups.hearthsOf(g);
    merged.parts = groups.partsInto(g, merged);
    enter(merged);
  }

  // ---- WHO ASKS, WHO KNEW ----

  public int count(int what, int whom, int order, boolean most) {
    if (!isIn(order, 0, ORDERS) || !isGroup(what, whom)) {
      return NONE;
    }
    int askers = askersOf(what, whom);
    int number = 0;
    for (int i = 0; i < placeCount; i++) {
      Place p = places[i];
      if (p.level == PARISH && (order == ORDERS || p.order == order)) {
        number += bit(hasBit(askers, i) || (most && p.torn != NONE));
      }
    }
    return number;
  }

  public int asked(int what, int whom, int a, int place, int k) {
    Place at = placeAt(place);
    if (at == null || !isGroup(what, whom)) {
      return NONE;
    }
    int known = 0;
    for (int i = 0; i < askCount; i++) {
      Ask one = asks[i];
      if (one.place.level == PARISH && one.isFor(what, whom)) {
        int way = wayBetween(one.place, at);
        boolean written = one.day <= a && one.day + way <= k;
        boolean withdrawn = one.withdrawn != NONE && one.withdrawn <= a
            && one.withdrawn + way <= k;
        known |= bit(written && !withdrawn) << one.place.number;
      }
    }
    return Integer.bitCount(known);
  }

  public int other(int mode, int i) {
    if (!isIn(i, 0, MOST_OTHERS - 1)) {
      return NONE;
    }
    int left = i;
    for (int code = 0; code < WHATS * WHOMS; code++) {
      if (comesToTheTop(mode, code / WHOMS, code % WHOMS)) {
        if (left == 0) {
          return code;
        }
        left--;
      }
    }
    return NONE;
  }

  /** The PARISHES that ask for it now, as bits. */
  private int askersOf(int what, int whom) {
    int askers = 0;
    for (int i = 0; i < askCount; i++) {
      Ask a = asks[i];
      if (a.place.level == PARISH && a.stands() && a.isFor(what, whom)) {
        askers |= 1 << a.place.number;
      }
    }
    return askers;
  }

  private boolean comesToTheTop(int mode, int what, int whom) {
    switch (mode) {
      case 0: return askedByMostHearths(askersOf(what, whom));
      case 1: return askedByMostOrders(askersOf(what, whom));
      case 2: return standsAtTheTop(what, whom);
      default: return false;
    }
  }

  private boolean askedByMostHearths(int askers) {
    int hearths = 0;
    for (int i = 0; i < placeCount; i++) {
      hearths += hasBit(askers, i) ? places[i].hearths : 0;
    }
    return 2 * hearths > places[0].hearths;
  }

  private boolean askedByMostOrders(int askers) {
    int orders = 0;
    for (int order = 0; order < ORDERS; order++) {
      int asking = 0;
      int all = 0;
      for (int i = 0; i < placeCount; i++) {
        if (places[i].order == order) {
          asking += bit(hasBit(askers, i));
          all++;
        }
      }
      orders += bit(2 * asking > all);
    }
    return orders >= 2;
  }

  private boolean standsAtTheTop(int what, int whom) {
    for (int i = 0; i < askCount; i++) {
      if (asks[i].place.level == TOP && asks[i].isFor(what, whom)) {
        return true;
      }
    }
    return false;
  }

  // ---- DEPUTIES ----

  public int person(int place, int born) {
    Place p = placeAt(place);
    if (p == null) {
      return refuse(NOBODY);
    }
    if (p.level != PARISH || !isIn(born, 0, LAST_BORN)) {
      return refuse(WRONG);
    }
    if (personCount >= MOST_PERSONS) {
      return refuse(ROOM);
    }
    int number = personCount;
    persons[number] = new Person(number, p, born);
    personCount++;
    return number;
  }

  public int choose(int place, int s) {
    Place p = placeAt(place);
    Shelf shelf = shelfAt(s);
    if (p == null || shelf == null) {
      return refuse(NOBODY);
    }
    int trouble = rowTrouble(shelf);
    if (trouble != FINE) {
      return refuse(trouble);
    }
    int candidates = candidatesOf(p);
    if (shelf.size < candidates) {
      return refuse(BEYOND);
    }
    Person chosen = mostVoted(p, shelf, candidates);
    if (chosen == null || p.choice != null || p.level == TOP) {
      return refuse(WRONG);
    }
    p.choice = chosen;
    return chosen.number;
  }

  public int unchoose(int place) {
    Place p = placeAt(place);
    if (p == null) {
      return refuse(NOBODY);
    }
    Person gone = p.choice;
    if (gone == null) {
      return refuse(WRONG);
    }
    int voided = 0;
    for (Place at = p; at != null && at.choice == gone; at = at.under) {
      at.choice = null;
      voided++;
    }
    return voided;
  }

  public int bind(int ask) {
    Ask a = askAt(ask);
    if (a == null) {
      return refuse(NOBODY);
    }
    if (a.kind != MERGED || a.place.level == TOP || a.place.choice == null || a.yielded) {
      return refuse(WRONG);
    }
    a.kind = BOUND;
    return a.place.choice.number;
  }

  public int unbind(int ask) {
    Ask a = askAt(ask);
    if (a == null) {
      return refuse(NOBODY);
    }
    if (a.kind != BOUND || a.freeFrom != NONE) {
      return refuse(WRONG);
    }
    a.freeFrom = now + wayBetween(a.place, places[0]);
    return a.freeFrom;
  }

  public int give(int ask) {
    Ask a = askAt(ask);
    if (a == null) {
      return refuse(NOBODY);
    }
    if (!a.isOf(MERGED) || a.place.level == TOP || a.place.choice == null || a.yielded
        || a.isBoundStill(now)) {
      return refuse(WRONG);
    }
    a.yielded = true;
    return a.place.choice.number;
  }

  private boolean isCandidate(Person person, Place p) {
    if (p.level == PARISH) {
      return person.place == p;
    }
    for (int i = 0; i < placeCount; i++) {
      if (places[i].under == p && places[i].choice == person) {
        return true;
      }
    }
    return false;
  }

  private int candidatesOf(Place p) {
    int candidates = 0;
    for (int i = 0; i < personCount; i++) {
      candidates += bit(isCandidate(persons[i], p));
    }
    return candidates;
  }

  private Person mostVoted(Place p, Shelf shelf, int votes) {
    Person most = null;
    int mostVotes = 0;
    for (int i = 0; i < personCount; i++) {
      Person person = persons[i];
      if (isCandidate(person, p)) {
        int own = shelf.votesFor(i, votes);
        boolean elder = most != null && own == mostVotes && person.born < most.born;
        if (most == null || own > mostVotes || elder) {
          most = person;
          mostVotes = own;
        }
      }
    }
    return most;
  }

  // ---- CLASHES, BEST BOOK ----

  public int clash(int a, int b, boolean is) {
    if (!isIn(a, 0, WHATS - 1) || !isIn(b, 0, WHATS - 1)) {
      return refuse(WRONG);
    }
    return bit(quarrel.tell(a, b, is));
  }

  public int leave(int place) {
    Place p = placeAt(place);
    if (p == null) {
      return refuse(NOBODY);
    }
    if (standingIn(p) > MOST_QUARREL) {
      return refuse(ROOM);
    }
    bringToQuarrel(p);
    return quarrel.fewestToLeave();
  }

  public int judge(int place, int s) {
    Place p = placeAt(place);
    Shelf shelf = shelfAt(s);
    if (p == null || shelf == null) {
      return refuse(NOBODY);
    }
    int trouble = rowTrouble(shelf);
    if (trouble != FINE) {
      return refuse(trouble);
    }
    int standing = standingIn(p);
    if (!shelf.allIntsBelow(standing)) {
      return refuse(WRONG);
    }
    if (standing > MOST_QUARREL) {
      return refuse(ROOM);
    }
    bringToQuarrel(p);
    return bit(quarrel.isPeaceful(quarrel.all() & ~shelf.bitsOfInts()));
  }

  public int best(int place, int space) {
    Place p = placeAt(place);
    if (p == null) {
      return refuse(NOBODY);
    }
    if (!isIn(space, 0, MOST_SPACE) || p.level == PARISH) {
      return refuse(WRONG);
    }
    gather(p);
    if (groups.number > MOST_BEST_GROUPS) {
      return refuse(ROOM);
    }
    quarrel.clear();
    for (int g = 0; g < groups.number; g++) {
      quarrel.add(groups.firstOf(g).what);
      bestBook.takeGroup(g, groups);
    }
    return bestBook.find(groups.number, space, quarrel);
  }

  public int bestOf(int i) {
    return bestBook.joinOf(i);
  }

  private void bringToQuarrel(Place p) {
    quarrel.clear();
    for (int i = 0; i < askCount; i++) {
      if (asks[i].place == p && asks[i].stands()) {
        quarrel.add(asks[i].what);
      }
    }
  }

  // ---- STATUS ----

  public int status(int what) {
    switch (what) {
      case 0: return placeCount;
      case 1: return askCount;
      case 2: return modelCount;
      case 3: return ruleCount;
      case 4: return personCount;
      case 5: return now;
      case 6: return booksMade();
      case 7: case 8: case 9: case 10: return asksWith(what);
      default:
        int refusal = what - 11;
        return isIn(refusal, 0, REFUSALS - 1) ? refusals[refusal] : NONE;
    }
  }

  private int booksMade() {
    int number = 0;
    for (int i = 0; i < placeCount; i++) {
      number += bit(places[i].made);
    }
    return number;
  }

  private int asksWith(int what) {
    int number = 0;
    for (int i = 0; i < askCount; i++) {
      Ask a = asks[i];
      switch (what) {
        case 7: number += bit(a.kind == BORROWED); break;
        case 8: number += bit(a.dropped != null); break;
        case 9: number += bit(a.late); break;
        default: number += bit(a.yielded); break;
      }
    }
    return number;
  }

  private int refuse(int refusal) {
    int i = -1 - refusal;
    if (isIn(i, 0, REFUSALS - 1)) {
      refusals[i]++;
    }
    return refusal;
  }

  // ---- what all use ----

  private Place placeAt(int n) {
    return isIn(n, 0, placeCount - 1) ? places[n] : null;
  }

  private Shelf shelfAt(int n) {
    return isIn(n, 0, SHELVES - 1) ? shelves[n] : null;
  }

  private Ask askAt(int n) {
    return isIn(n, 0, askCount - 1) ? asks[n] : null;
  }

  private Model modelAt(int n) {
    return isIn(n, 0, modelCount - 1) ? models[n] : null;
  }

  private static boolean isIn(int n, int least, int most) {
    return n >= least && n <= most;
  }

  private static boolean isGroup(int what, int whom) {
    return isIn(what, 0, WHATS - 1) && isIn(whom, 0, WHOMS - 1);
  }

  private static boolean hasBit(int bits, int i) {
    return (bits >> i & 1) != 0;
  }

  private static int bit(boolean is) {
    return is ? 1 : 0;
  }

  private static final class Place {
    private final int number;
    private final int level;
    private final Place under;
    private final int way;
    private final int order;
    private final int[] yes = new int[WHATS];
    private int hearths;
    private int below;
    private boolean made;
    private int torn = NONE;
    private Person choice;

    private Place(int number, Place under, int way, int order, int hearths) {
      this.number = number;
      this.level = under == null ? TOP : under.level - 1;
      this.under = under;
      this.way = way;
      this.order = order;
      this.hearths = hearths;
    }
  }

  private static final class Person {
    private final int number;
    private final Place place;
    private final int born;

    private Person(int number, Place place, int born) {
      this.number = number;
      this.place = place;
      this.born = born;
    }
  }

  private static final class Model {
    private final int number;
    private final int what;
    private final Place place;
    private final int day;
    private final long[] words;

    private Model(int number, int what, Place place, int day, long[] words) {
      this.number = number;
      this.what = what;
      this.place = place;
      this.day = day;
      this.words = words;
    }
  }

  private static final class Ask {
    private final int number;
    private final Place place;
    private final int what;
    private final int whom;
    private final int much;
    private final int day;
    private int kind;
    private int hearths;
    private long[] words;
    private Ask[] parts;
    private Model model;
    private int likeness;
    private boolean late;
    private boolean gap;
    private int withdrawn = NONE;
    private Ask into;
    private Place dropped;
    private boolean yielded;
    private int freeFrom = NONE;

    private Ask(int number, int kind, Place place, int what, int whom, int much, int day) {
      this.number = number;
      this.kind = kind;
      this.place = place;
      this.what = what;
      this.whom = whom;
      this.much = much;
      this.day = day;
    }

    private boolean isOf(int wanted) {
      return wanted == ASK || wanted == kind || (wanted == MERGED && kind == BOUND);
    }

    private boolean isFor(int itsWhat, int itsWhom) {
      return what == itsWhat && whom == itsWhom;
    }

    private boolean stands() {
      return withdrawn == NONE && !gap;
    }

    private boolean isBoundStill(int today) {
      return kind == BOUND && (freeFrom == NONE || freeFrom > today);
    }

    private int partCount() {
      return parts == null ? 0 : parts.length;
    }

    private int saysAt(int joined) {
      return hearths * (FULL - Math.abs(much - joined));
    }

    /** By WHAT, then WHOM, then PLACE. */
    private boolean comesAfter(Ask one) {
      if (what != one.what) {
        return what > one.what;
      }
      return whom != one.whom ? whom > one.whom : place.number > one.place.number;
    }
  }

  private static final class Shelf {
    private final long[] elements = new long[MOST_ELEMENTS];
    private int sort = NONE;
    private int size;
    private Ask ask;

    private boolean hasRow() {
      return sort != NONE;
    }

    private void takeRow(int newSort, int newSize) {
      ask = null;
      sort = newSort;
      size = newSize;
      Arrays.fill(elements, 0L);
    }

    private void takeAsk(Ask shown) {
      ask = shown;
      sort = NONE;
      size = 0;
    }

    private long[] rowCopy() {
      return Arrays.copyOf(elements, size);
    }

    private int votesFor(int person, int votes) {
      int own = 0;
      for (int i = 0; i < votes && i < size; i++) {
        own += bit((int) elements[i] == person);
      }
      return own;
    }

    private boolean allIntsBelow(int bound) {
      for (int i = 0; i < size; i++) {
        if (!isIn((int) elements[i], 0, bound - 1)) {
          return false;
        }
      }
      return true;
    }

    private int bitsOfInts() {
      int bits = 0;
      for (int i = 0; i < size; i++) {
        bits |= 1 << (int) elements[i];
      }
      return bits;
    }
  }

  private static final class Rule {
    private final int number;
    private final int level;
    private final int day;
    private final long[] letters;
    private int struck = NONE;

    private Rule(int number, int level, int day, long[] letters) {
      this.number = number;
      this.level = level;
      this.day = day;
      this.letters = letters;
    }
  }

  /**
   * Reads a RULE and reckons it for one group on the way. Once there is a FAULT, no letter comes
   * any more, so that the FAULT is the first place where none of those that may stand stands.
   */
  private static final class RuleReader {
    private static final int NO_LETTER = -1;
    private static final int DEEPEST = 20;
    private static final int MOST_DIGITS = 4;

    private final int[] letters = new int[MOST_ELEMENTS];
    private final int[] values = new int[FIELDS.length()];
    private int size;
    private int at;
    private int faultAt = NONE;
    private boolean keeps;
    private int join;

    private void takeLetters(long[] elements, int length) {
      size = Math.min(length, Math.min(elements.length, MOST_ELEMENTS));
      for (int i = 0; i < size; i++) {
        letters[i] = (int) elements[i];
      }
    }

    private void readRule() {
      at = 0;
      faultAt = NONE;
      want('k');
      want(':');
      keeps = readAny(0);
      want(';');
      want('j');
      want(':');
      join = next();
      pass(join == GREATEST || join == LEAST || join == MIDDLE);
      if (at < size) {
        fail();
      }
    }

    private boolean readAny(int depth) {
      boolean any = readAll(depth);
      for (int i = 0; i < MOST_ELEMENTS && next() == '|'; i++) {
        at++;
        boolean more = readAll(depth);
        any = any || more;
      }
      return any;
    }

    private boolean readAll(int depth) {
      boolean all = readOne(depth);
      for (int i = 0; i < MOST_ELEMENTS && next() == '&'; i++) {
        at++;
        boolean more = readOne(depth);
        all = all && more;
      }
      return all;
    }

    private boolean readOne(int depth) {
      int letter = next();
      if (letter != '!' && letter != '(') {
        return readTest();
      }
      if (depth >= DEEPEST) {
        fail();
        return false;
      }
      at++;
      if (letter == '!') {
        return !readOne(depth + 1);
      }
      boolean inside = readAny(depth + 1);
      want(')');
      return inside;
    }

    private boolean readTest() {
      long left = readSide();
      int sign = next();
      pass(sign == '<' || sign == '>' || sign == '=');
      long right = readSide();
      if (sign == '<') {
        return left < right;
      }
      return sign == '>' ? left > right : left == right;
    }

    private long readSide() {
      if (!isDigit(next())) {
        return readField();
      }
      long number = 0;
      // after a first digit 0, number stays 0, and no other digit may come
      for (int i = 0; i < MOST_DIGITS && isDigit(next()) && (i == 0 || number != 0); i++) {
        number = 10 * number + next() - '0';
        at++;
      }
      if (next() != '*') {
        return number;
      }
      at++;
      return number * readField();
    }

    private int readField() {
      int letter = next();
      for (int i = 0; i < values.length; i++) {
        if (FIELDS.charAt(i) == letter) {
          at++;
          return values[i];
        }
      }
      fail();
      return 0;
    }

    private void want(int letter) {
      pass(next() == letter);
    }

    private void pass(boolean stands) {
      if (stands) {
        at++;
      } else {
        fail();
      }
    }

    private void fail() {
      if (faultAt == NONE) {
        faultAt = at;
      }
    }

    private int next() {
      return faultAt == NONE && at < size ? letters[at] : NO_LETTER;
    }

    private static boolean isDigit(int letter) {
      return letter >= '0' && letter <= '9';
    }
  }

  /** ASKS by groups of like WHAT and WHOM, in a group by PLACES. */
  private static final class Groups {
    private final Ask[] parts = new Ask[MOST_ASKS];
    private final int[] starts = new int[MOST_ASKS + 1];
    private final int[] joins = new int[MOST_ASKS];
    private int size;
    private int number;

    private void clear() {
      size = 0;
      number = 0;
    }

    private void add(Ask a) {
      if (size >= MOST_ASKS) {
        return;
      }
      int i = size;
      for (; i > 0 && parts[i - 1].comesAfter(a); i--) {
        parts[i] = parts[i - 1];
      }
      parts[i] = a;
      size++;
    }

    private void findStarts() {
      number = 0;
      for (int i = 0; i < size; i++) {
        if (i == 0 || !parts[i].isFor(parts[i - 1].what, parts[i - 1].whom)) {
          starts[number] = i;
          number++;
        }
      }
      starts[number] = size;
    }

    private Ask firstOf(int g) {
      return parts[starts[g]];
    }

    private int sizeOf(int g) {
      return starts[g + 1] - starts[g];
    }

    private int hearthsOf(int g) {
      int sum = 0;
      for (int i = starts[g]; i < starts[g + 1]; i++) {
        sum += parts[i].hearths;
      }
      return sum;
    }

    private int joined(int g, int join) {
      switch (join) {
        case GREATEST: return muchAt(g, sizeOf(g) - 1);
        case LEAST: return muchAt(g, 0);
        default: return muchAt(g, (sizeOf(g) - 1) / 2);
      }
    }

    /** The MUCH that has no more than rank lesser ones in the group, and more that are no greater. */
    private int muchAt(int g, int rank) {
      for (int i = starts[g]; i < starts[g + 1]; i++) {
        int lesser = 0;
        int noGreater = 0;
        for (int j = starts[g]; j < starts[g + 1]; j++) {
          lesser += bit(parts[j].much < parts[i].much);
          noGreater += bit(parts[j].much <= parts[i].much);
        }
        if (lesser <= rank && rank < noGreater) {
          return parts[i].much;
        }
      }
      return 0;
    }

    private int saidBy(int g, int join) {
      int much = joined(g, join);
      int sum = 0;
      for (int i = starts[g]; i < starts[g + 1]; i++) {
        sum += parts[i].saysAt(much);
      }
      return sum;
    }

    private void dropAt(int g, Place place) {
      for (int i = starts[g]; i < starts[g + 1]; i++) {
        parts[i].dropped = place;
      }
    }

    private Ask[] partsInto(int g, Ask merged) {
      Ask[] own = new Ask[Math.max(sizeOf(g), 0)];
      for (int i = 0; i < own.length; i++) {
        own[i] = parts[starts[g] + i];
        own[i].into = merged;
      }
      return own;
    }
  }

  /** Which WHATS CLASH, as told, and of some ASKS or groups, as bits, which may not stand together. */
  private static final class Quarrel {
    private final int[] told = new int[WHATS];
    private final int[] whats = new int[MOST_QUARREL];
    private final int[] foes = new int[MOST_QUARREL];
    private int size;

    private boolean tell(int a, int b, boolean is) {
      boolean otherwise = hasBit(told[a], b) != is;
      if (otherwise) {
        told[a] ^= 1 << b;
        // a WHAT that clashes with itself has one bit alone, not to be turned twice
        told[b] ^= a == b ? 0 : 1 << a;
      }
      return otherwise;
    }

    private void clear() {
      size = 0;
    }

    private void add(int what) {
      if (size >= MOST_QUARREL) {
        return;
      }
      whats[size] = what;
      foes[size] = 0;
      for (int i = 0; i < size; i++) {
        if (hasBit(told[what], whats[i])) {
          foes[i] |= 1 << size;
          foes[size] |= 1 << i;
        }
      }
      size++;
    }

    private int all() {
      return (1 << size) - 1;
    }

    private boolean isPeaceful(int members) {
      for (int i = 0; i < size; i++) {
        if (hasBit(members, i) && (foes[i] & members) != 0) {
          return false;
        }
      }
      return true;
    }

    private int fewestToLeave() {
      int fewest = all();
      for (int left = 0; left < 1 << size; left++) {
        if (Integer.bitCount(left) < Integer.bitCount(fewest) && isPeaceful(all() & ~left)) {
          fewest = left;
        }
      }
      return fewest;
    }
  }

  /** The latest BEST BOOK: its groups as bits, and by which join each group says most. */
  private static final class BestBook {
    private static final int[] JOINS = {GREATEST, LEAST, MIDDLE};

    private final int[] saids = new int[MOST_BEST_GROUPS];
    private final int[] joins = new int[MOST_BEST_GROUPS];
    private int size;
    private int members;

    private void takeGroup(int g, Groups groups) {
      saids[g] = 0;
      joins[g] = 0;
      for (int j = 0; j < JOINS.length; j++) {
        int says = groups.saidBy(g, JOINS[j]);
        if (says > saids[g]) {
          saids[g] = says;
          joins[g] = j + 1;
        }
      }
    }

    private int find(int number, int space, Quarrel quarrel) {
      size = number;
      members = 0;
      int most = 0;
      for (int set = 0; set < 1 << size; set++) {
        if (Integer.bitCount(set) <= space && quarrel.isPeaceful(set)) {
          int together = saidTogether(set);
          if (together > most) {
            most = together;
            members = set;
          }
        }
      }
      return most;
    }

    private int saidTogether(int set) {
      int sum = 0;
      for (int g = 0; g < size; g++) {
        sum += hasBit(set, g) ? saids[g] : 0;
      }
      return sum;
    }

    private int joinOf(int g) {
      if (!isIn(g, 0, size - 1)) {
        return NONE;
      }
      return hasBit(members, g) ? joins[g] : 0;
    }
  }
}

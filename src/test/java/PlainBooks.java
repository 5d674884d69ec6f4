import java.util.ArrayList;
import java.util.HashMap;
import java.util.List;
import java.util.Map;
import java.util.TreeMap;
import java.util.stream.IntStream;

/**
 * The document once more, written for plainness alone: everything is looked up in lists, nothing
 * is kept that can be reckoned. TwinTest asks both the same.
 */
final class PlainBooks {
  static final class P {
    int level, under = -1, way, order = -1, hearths, torn = -1, choice = -1;
    boolean made;
    int[] yes = new int[16];
  }

  static final class A {
    int number, kind, place, what, whom, much, day, withdrawn = -1, into = -1, dropped = -1;
    int model = -1, freed = -1;
    boolean late, gap, yielded;
    List<Long> words;
    List<Integer> parts = new ArrayList<>();
  }

  record M(int what, List<Long> words, int place, int day) { }

  static final class R {
    int level, day, struck = Integer.MAX_VALUE;
    String text;
  }

  record Person(int place, int born) { }

  final List<P> places = new ArrayList<>();
  final List<A> asks = new ArrayList<>();
  final List<M> models = new ArrayList<>();
  final List<R> rules = new ArrayList<>();
  final List<Person> persons = new ArrayList<>();
  private final Object[] shelves = new Object[8];
  private final int[] sorts = new int[8];
  private final int[] refusals = new int[8];
  private final boolean[][] clashes = new boolean[16][16];
  private int[] best = new int[0];
  private int now;
  private int fault = -1;

  PlainBooks() {
    P top = new P();
    top.level = 3;
    places.add(top);
  }

  /** The first refusal that fits: pairs of a refusal and whether it does. */
  private int first(Object... fits) {
    for (int refusal = -1; refusal >= -7; refusal--) {
      for (int i = 0; i < fits.length; i += 2) {
        if ((Integer) fits[i] == refusal && (Boolean) fits[i + 1]) {
          refusals[-refusal]++;
          return refusal;
        }
      }
    }
    return 0;
  }

  private static boolean out(int n, int low, int high) {
    return n < low || n > high;
  }

  private boolean noPlace(int p) {
    return out(p, 0, places.size() - 1);
  }

  private boolean noAsk(int a) {
    return out(a, 0, asks.size() - 1);
  }

  private static boolean noShelf(int s) {
    return out(s, 0, 7);
  }

  @SuppressWarnings("unchecked")
  private List<Long> rowIn(int s) {
    return noShelf(s) || !(shelves[s] instanceof List) ? null : (List<Long>) shelves[s];
  }

  private boolean askIn(int s) {
    return !noShelf(s) && shelves[s] instanceof A;
  }

  private boolean nothingIn(int s) {
    return !noShelf(s) && shelves[s] == null;
  }

  private int sizeIn(int s) {
    return rowIn(s) == null ? 0 : rowIn(s).size();
  }

  int place(int under, int days) {
    int level = noPlace(under) ? 0 : places.get(under).level;
    int r = first(-1, noPlace(under), -6, out(days, 0, 99) || level < 2, -7, places.size() == 24);
    return r != 0 ? r : found(under, days, -1, 0);
  }

  int parish(int under, int days, int order, int hearths) {
    int level = noPlace(under) ? 0 : places.get(under).level;
    boolean wrong = out(days, 0, 99) || out(order, 0, 2) || out(hearths, 1, 999) || level != 1;
    int r = first(-1, noPlace(under), -6, wrong, -7, places.size() == 24);
    return r != 0 ? r : found(under, days, order, hearths);
  }

  private int found(int under, int days, int order, int hearths) {
    P p = new P();
    p.level = places.get(under).level - 1;
    p.under = under;
    p.way = days;
    p.order = order;
    p.hearths = hearths;
    places.add(p);
    return places.size() - 1;
  }

  private List<Integer> chain(int p) {
    List<Integer> chain = new ArrayList<>();
    for (int at = p; at >= 0; at = places.get(at).under) {
      chain.add(at);
    }
    return chain;
  }

  private int ways(List<Integer> steps) {
    return steps.stream().mapToInt(p -> places.get(p).way).sum();
  }

  int path(int a, int b) {
    if (noPlace(a) || noPlace(b)) {
      return -1;
    }
    List<Integer> up = chain(a);
    List<Integer> down = chain(b);
    List<Integer> both = new ArrayList<>(up);
    both.retainAll(down);
    up.removeAll(both);
    down.removeAll(both);
    return ways(up) + ways(down);
  }

  int days(int n) {
    int r = first(-6, out(n, 1, 400) || now + (long) n > 4000);
    return r != 0 ? r : (now += n);
  }

  private List<A> bookOf(int place) {
    return asks.stream().filter(a -> a.place == place).toList();
  }

  private List<A> standing(int place) {
    return bookOf(place).stream().filter(PlainBooks::stands).toList();
  }

  private static boolean stands(A a) {
    return a.withdrawn < 0 && !a.gap;
  }

  private List<Integer> below(int place) {
    return IntStream.range(0, places.size()).filter(p -> places.get(p).under == place).boxed().toList();
  }

  private int allHearths(int place) {
    return IntStream.range(0, places.size()).filter(p -> chain(p).contains(place))
        .map(p -> places.get(p).hearths).sum();
  }

  int about(int place, int what) {
    if (noPlace(place)) {
      return -1;
    }
    P p = places.get(place);
    return switch (what) {
      case 0 -> p.level;
      case 1 -> p.under;
      case 2 -> p.order;
      case 3 -> allHearths(place);
      case 4 -> bookOf(place).size();
      case 5 -> p.made ? 1 : 0;
      case 6 -> p.choice;
      case 7 -> p.torn;
      default -> -1;
    };
  }

  int row(int s, int sort, int n) {
    int r = first(-1, noShelf(s), -4, n < 0, -6, out(sort, 0, 3), -7, n > 60);
    if (r != 0) {
      return r;
    }
    List<Long> row = new ArrayList<>();
    for (int i = 0; i < n; i++) {
      row.add(0L);
    }
    shelves[s] = row;
    sorts[s] = sort;
    return 1;
  }

  int set(int s, int i, long v) {
    int r = first(-1, noShelf(s), -2, askIn(s), -3, nothingIn(s), -5, out(i, 0, sizeIn(s) - 1));
    if (r != 0) {
      return r;
    }
    int left = 64 - (8 << sorts[s]);
    rowIn(s).set(i, v << left >> left);
    return 1;
  }

  int copy(int p, int q, int i, int j, int n) {
    boolean rows = rowIn(p) != null && rowIn(q) != null;
    int r = first(-1, noShelf(p) || noShelf(q), -2, askIn(p) || askIn(q),
        -2, rows && sorts[p] != sorts[q], -3, nothingIn(p) || nothingIn(q), -4, n < 0,
        -5, i < 0 || j < 0 || (long) i + n > sizeIn(p) || (long) j + n > sizeIn(q));
    if (r != 0) {
      return r;
    }
    List<Long> taken = new ArrayList<>(rowIn(p).subList(i, i + n));
    for (int k = 0; k < n; k++) {
      rowIn(q).set(j + k, taken.get(k));
    }
    return 1;
  }

  long element(int s, int i) {
    return out(i, 0, sizeIn(s) - 1) ? 0 : rowIn(s).get(i);
  }

  int show(int s, int ask) {
    int r = first(-1, noShelf(s) || ask != -1 && noAsk(ask));
    if (r != 0) {
      return r;
    }
    shelves[s] = ask == -1 ? null : asks.get(ask);
    return ask == -1 ? 0 : 1;
  }

  int holds(int s) {
    if (noShelf(s) || nothingIn(s)) {
      return -1;
    }
    return askIn(s) ? ((A) shelves[s]).number : 1000 + sorts[s];
  }

  int says(int s, int kind) {
    A a = askIn(s) ? (A) shelves[s] : null;
    int[][] under = {{0, 1, 2, 3}, {1}, {2, 3}, {3}};
    boolean such = a != null && !out(kind, 0, 3)
        && IntStream.of(under[kind]).anyMatch(k -> k == a.kind);
    int r = first(-1, noShelf(s) || out(kind, 0, 3), -2, rowIn(s) != null || a != null && !such,
        -3, nothingIn(s));
    if (r != 0) {
      return r;
    }
    return switch (kind) {
      case 0 -> a.much;
      case 1 -> alike(a.words, models.get(a.model).words);
      case 2 -> a.parts.size();
      default -> 100 + a.parts.size();
    };
  }

  int model(int what, int s, int place) {
    int r = first(-1, noShelf(s) || noPlace(place), -2, askIn(s), -3, nothingIn(s),
        -6, out(what, 0, 15) || sizeIn(s) > 20, -7, models.size() == 8);
    if (r != 0) {
      return r;
    }
    models.add(new M(what, List.copyOf(rowIn(s)), place, now));
    return models.size() - 1;
  }

  int reaches(int model, int place) {
    boolean none = out(model, 0, models.size() - 1) || noPlace(place);
    return none ? -1 : models.get(model).day + path(models.get(model).place, place);
  }

  private static int alike(List<Long> a, List<Long> b) {
    if (a.isEmpty() || b.isEmpty()) {
      return 0;
    }
    int[][] most = new int[a.size() + 1][b.size() + 1];
    for (int i = a.size() - 1; i >= 0; i--) {
      for (int j = b.size() - 1; j >= 0; j--) {
        int here = a.get(i).equals(b.get(j)) ? 1 + most[i + 1][j + 1] : 0;
        most[i][j] = Math.max(here, Math.max(most[i + 1][j], most[i][j + 1]));
      }
    }
    return most[0][0];
  }

  int write(int place, int what, int whom, int much, int s) {
    boolean parish = !noPlace(place) && places.get(place).level == 0;
    boolean has = !noPlace(place) && standing(place).stream().anyMatch(a -> a.what == what && a.whom == whom);
    boolean torn = parish && places.get(place).torn >= 0;
    boolean wrong = !parish || has || torn || out(what, 0, 15) || out(whom, 0, 7)
        || out(much, 0, 99) || sizeIn(s) > 20;
    int r = first(-1, noPlace(place) || noShelf(s), -2, askIn(s), -3, nothingIn(s), -6, wrong,
        -7, asks.size() == 160);
    if (r != 0) {
      return r;
    }
    A a = enter(0, place, what, whom, much);
    a.words = List.copyOf(rowIn(s));
    a.late = places.get(places.get(place).under).made;
    int most = 0;
    for (int m = 0; m < models.size(); m++) {
      int like = alike(a.words, models.get(m).words);
      if (models.get(m).what == what && reaches(m, place) <= now && like >= 3
          && 2 * like >= a.words.size() && like > most) {
        most = like;
        a.kind = 1;
        a.model = m;
      }
    }
    return a.number;
  }

  private A enter(int kind, int place, int what, int whom, int much) {
    A a = new A();
    a.number = asks.size();
    a.kind = kind;
    a.place = place;
    a.what = what;
    a.whom = whom;
    a.much = much;
    a.day = now;
    asks.add(a);
    return a;
  }

  int withdraw(int ask) {
    boolean wrong = !noAsk(ask) && (asks.get(ask).words == null || !stands(asks.get(ask)));
    int r = first(-1, noAsk(ask), -6, wrong);
    if (r != 0) {
      return r;
    }
    asks.get(ask).withdrawn = now;
    return 1;
  }

  int tear(int place, int i) {
    P p = noPlace(place) ? null : places.get(place);
    boolean wrong = p != null && (p.level != 0 || out(i, 0, bookOf(place).size()) || p.torn >= 0
        || places.get(p.under).made);
    int r = first(-1, p == null, -6, wrong);
    if (r != 0) {
      return r;
    }
    p.torn = i;
    List<A> gaps = bookOf(place).subList(i, bookOf(place).size());
    gaps.forEach(a -> a.gap = true);
    return gaps.size();
  }

  int ask(int ask, int what) {
    if (noAsk(ask)) {
      return -1;
    }
    A a = asks.get(ask);
    return switch (what) {
      case 0 -> a.kind;
      case 1 -> a.place;
      case 2 -> a.what;
      case 3 -> a.whom;
      case 4 -> a.much;
      case 5 -> a.day;
      case 6 -> a.late ? 1 : 0;
      case 7 -> a.withdrawn >= 0 ? 1 : 0;
      case 8 -> a.gap ? 1 : 0;
      case 9 -> a.into;
      case 10 -> a.dropped;
      case 11 -> behind(a);
      case 12 -> a.model;
      case 13 -> a.yielded ? 1 : 0;
      default -> -1;
    };
  }

  private int behind(A a) {
    return a.words != null ? places.get(a.place).hearths
        : a.parts.stream().mapToInt(p -> behind(asks.get(p))).sum();
  }

  int likeness(int ask, int model) {
    boolean none = noAsk(ask) || out(model, 0, models.size() - 1) || asks.get(ask).words == null;
    return none ? -1 : alike(asks.get(ask).words, models.get(model).words);
  }

  int chance(int ask, boolean of) {
    if (noAsk(ask) || asks.get(ask).kind != 1) {
      return -1;
    }
    A a = asks.get(ask);
    List<A> others = asks.stream().filter(o -> o != a && o.words != null && o.what == a.what
        && reaches(a.model, o.place) > o.day).toList();
    return of ? others.size() : (int) others.stream()
        .filter(o -> likeness(o.number, a.model) >= likeness(ask, a.model)).count();
  }

  int less(int ask) {
    return noAsk(ask) || asks.get(ask).into < 0 ? 1000
        : asks.get(ask).much - asks.get(asks.get(ask).into).much;
  }

  int part(int ask, int i) {
    return noAsk(ask) || out(i, 0, asks.get(ask).parts.size() - 1) ? -1 : asks.get(ask).parts.get(i);
  }

  int end(int ask) {
    return noAsk(ask) ? -1 : asks.get(ask).into < 0 ? ask : end(asks.get(ask).into);
  }

  int lost(int ask) {
    return noAsk(ask) ? -1 : asks.get(end(ask)).dropped;
  }

  int book(int place, int i) {
    return out(i, 0, bookOf(place).size() - 1) ? -1 : bookOf(place).get(i).number;
  }

  int rule(int level, int day, int s) {
    int fine = first(-1, noShelf(s) || out(level, 1, 3), -2, askIn(s), -3, nothingIn(s),
        -6, out(day, 0, 4000));
    if (fine != 0) {
      return fine;
    }
    int[] letters = rowIn(s).stream().mapToInt(Long::intValue).toArray();
    fault = PlainRule.faultOf(letters);
    int r = first(-6, fault >= 0, -7, rules.size() == 12);
    if (r != 0) {
      return r;
    }
    R rule = new R();
    rule.level = level;
    rule.day = day;
    rule.text = new String(letters, 0, letters.length);
    rules.add(rule);
    return rules.size() - 1;
  }

  int fault() {
    return fault;
  }

  int strike(int rule) {
    boolean none = out(rule, 0, rules.size() - 1);
    int r = first(-1, none, -6, !none && rules.get(rule).struck <= now);
    if (r != 0) {
      return r;
    }
    rules.get(rule).struck = now;
    return 1;
  }

  int force(int level, int day) {
    return IntStream.range(0, rules.size())
        .filter(r -> rules.get(r).level == level && rules.get(r).day <= day
            && (rules.get(r).struck > day || rules.get(r).struck == Integer.MAX_VALUE))
        .boxed().max((a, b) -> rules.get(a).day != rules.get(b).day
            ? rules.get(a).day - rules.get(b).day : a - b).orElse(-1);
  }

  int vote(int place, int what, int n) {
    int r = first(-1, noPlace(place), -6, out(what, 0, 15) || out(n, 0, 99));
    if (r != 0) {
      return r;
    }
    int was = places.get(place).yes[what];
    places.get(place).yes[what] = n;
    return was;
  }

  /** By code, then by PLACE. */
  private Map<Integer, Map<Integer, A>> groups(int place) {
    Map<Integer, Map<Integer, A>> groups = new TreeMap<>();
    for (int p : below(place)) {
      for (A a : standing(p)) {
        groups.computeIfAbsent(8 * a.what + a.whom, c -> new TreeMap<>()).put(p, a);
      }
    }
    return groups;
  }

  private static int joined(Map<Integer, A> group, char join) {
    int[] muches = group.values().stream().mapToInt(a -> a.much).sorted().toArray();
    return join == 'x' ? muches[muches.length - 1] : join == 'l' ? muches[0] : muches[(muches.length - 1) / 2];
  }

  private boolean kept(R rule, int place, int code, Map<Integer, A> group) {
    Map<Character, Integer> fields = new HashMap<>();
    fields.put('n', group.size());
    fields.put('b', below(place).size());
    fields.put('h', group.values().stream().mapToInt(this::behind).sum());
    fields.put('t', allHearths(place));
    fields.put('m', joined(group, 'x'));
    fields.put('w', code / 8);
    fields.put('d', now);
    fields.put('y', places.get(place).yes[code / 8]);
    return PlainRule.keeps(rule.text, fields);
  }

  int make(int place) {
    P p = noPlace(place) ? null : places.get(place);
    boolean wrong = p != null && (p.level == 0 || p.made);
    Map<Integer, Map<Integer, A>> groups = p == null ? new TreeMap<>() : groups(place);
    int inForce = p == null ? -1 : force(p.level, now);
    R rule = inForce < 0 ? null : rules.get(inForce);
    List<Integer> keep = wrong ? List.of() : groups.keySet().stream()
        .filter(c -> rule == null || kept(rule, place, c, groups.get(c))).toList();
    int r = first(-1, p == null, -6, wrong, -7, asks.size() + keep.size() > 160);
    if (r != 0) {
      return r;
    }
    for (int code : groups.keySet()) {
      if (keep.contains(code)) {
        char join = rule == null ? 'x' : PlainRule.joinOf(rule.text);
        A merged = enter(2, place, code / 8, code % 8, joined(groups.get(code), join));
        groups.get(code).values().forEach(a -> {
          a.into = merged.number;
          merged.parts.add(a.number);
        });
      } else {
        groups.get(code).values().forEach(a -> a.dropped = place);
      }
    }
    p.made = true;
    return keep.size();
  }

  private boolean asksNow(int parish, int what, int whom) {
    return standing(parish).stream().anyMatch(a -> a.what == what && a.whom == whom);
  }

  private List<Integer> parishes(int order) {
    return IntStream.range(0, places.size())
        .filter(p -> places.get(p).level == 0 && (order == 3 || places.get(p).order == order))
        .boxed().toList();
  }

  int count(int what, int whom, int order, boolean most) {
    if (out(what, 0, 15) || out(whom, 0, 7) || out(order, 0, 3)) {
      return -1;
    }
    int count = 0;
    for (int p : parishes(order)) {
      if (asksNow(p, what, whom)) {
        count++;
      } else if (most && places.get(p).torn >= 0) {
        count++;
      }
    }
    return count;
  }

  int asked(int what, int whom, int a, int place, int k) {
    if (out(what, 0, 15) || out(whom, 0, 7) || noPlace(place)) {
      return -1;
    }
    return (int) parishes(3).stream().filter(p -> bookOf(p).stream().anyMatch(one ->
        one.what == what && one.whom == whom && one.day <= a && one.day + path(p, place) <= k
            && !(one.withdrawn >= 0 && one.withdrawn <= a && one.withdrawn + path(p, place) <= k)))
        .count();
  }

  int person(int place, int born) {
    boolean wrong = !noPlace(place) && places.get(place).level != 0 || out(born, 0, 9999);
    int r = first(-1, noPlace(place), -6, wrong, -7, persons.size() == 20);
    if (r != 0) {
      return r;
    }
    persons.add(new Person(place, born));
    return persons.size() - 1;
  }

  private List<Integer> candidates(int place) {
    if (places.get(place).level == 0) {
      return IntStream.range(0, persons.size()).filter(i -> persons.get(i).place == place).boxed().toList();
    }
    return below(place).stream().map(p -> places.get(p).choice).filter(c -> c >= 0).toList();
  }

  int choose(int place, int s) {
    List<Integer> candidates = noPlace(place) ? List.of() : candidates(place);
    boolean wrong = !noPlace(place)
        && (places.get(place).choice >= 0 || candidates.isEmpty() || place == 0);
    int r = first(-1, noPlace(place) || noShelf(s), -2, askIn(s), -3, nothingIn(s),
        -5, sizeIn(s) < candidates.size(), -6, wrong);
    if (r != 0) {
      return r;
    }
    Map<Integer, Integer> votes = new HashMap<>();
    rowIn(s).subList(0, candidates.size()).forEach(v -> votes.merge(v.intValue(), 1, Integer::sum));
    int chosen = candidates.stream().sorted((a, b) -> {
      int byVotes = votes.getOrDefault(b, 0) - votes.getOrDefault(a, 0);
      int byBirth = persons.get(a).born - persons.get(b).born;
      return byVotes != 0 ? byVotes : byBirth != 0 ? byBirth : a - b;
    }).findFirst().orElseThrow();
    places.get(place).choice = chosen;
    return chosen;
  }

  int unchoose(int place) {
    int r = first(-1, noPlace(place), -6, !noPlace(place) && places.get(place).choice < 0);
    if (r != 0) {
      return r;
    }
    int gone = places.get(place).choice;
    int voided = 0;
    for (int p : chain(place)) {
      if (places.get(p).choice != gone) {
        break;
      }
      places.get(p).choice = -1;
      voided++;
    }
    return voided;
  }

  int bind(int ask) {
    A a = noAsk(ask) ? null : asks.get(ask);
    boolean wrong = a != null && (a.kind != 2 || a.place == 0 || places.get(a.place).choice < 0 || a.yielded);
    int r = first(-1, a == null, -6, wrong);
    if (r != 0) {
      return r;
    }
    a.kind = 3;
    return places.get(a.place).choice;
  }

  int unbind(int ask) {
    A a = noAsk(ask) ? null : asks.get(ask);
    int r = first(-1, a == null, -6, a != null && (a.kind != 3 || a.freed >= 0));
    if (r != 0) {
      return r;
    }
    a.freed = now + path(a.place, 0);
    return a.freed;
  }

  int give(int ask) {
    A a = noAsk(ask) ? null : asks.get(ask);
    boolean wrong = a != null && (a.kind < 2 || a.place == 0 || places.get(a.place).choice < 0
        || a.yielded || a.kind == 3 && (a.freed < 0 || a.freed > now));
    int r = first(-1, a == null, -6, wrong);
    if (r != 0) {
      return r;
    }
    a.yielded = true;
    return places.get(a.place).choice;
  }

  int clash(int a, int b, boolean is) {
    int r = first(-6, out(a, 0, 15) || out(b, 0, 15));
    if (r != 0) {
      return r;
    }
    boolean was = clashes[a][b];
    clashes[a][b] = is;
    clashes[b][a] = is;
    return was != is ? 1 : 0;
  }

  private boolean peaceful(List<Integer> whats, int set) {
    for (int i = 0; i < whats.size(); i++) {
      for (int j = 0; j < i; j++) {
        if ((set >> i & 1) == 1 && (set >> j & 1) == 1 && clashes[whats.get(i)][whats.get(j)]) {
          return false;
        }
      }
    }
    return true;
  }

  int leave(int place) {
    List<Integer> whats = noPlace(place) ? List.of() : standing(place).stream().map(a -> a.what).toList();
    int r = first(-1, noPlace(place), -7, whats.size() > 12);
    if (r != 0) {
      return r;
    }
    int all = (1 << whats.size()) - 1;
    for (int size = 0; size <= 12; size++) {
      for (int set = 0; set <= all; set++) {
        if (Integer.bitCount(set) == size && peaceful(whats, all & ~set)) {
          return set;
        }
      }
    }
    throw new IllegalStateException();
  }

  int judge(int place, int s) {
    List<Integer> whats = noPlace(place) ? List.of() : standing(place).stream().map(a -> a.what).toList();
    boolean none = rowIn(s) != null
        && rowIn(s).stream().anyMatch(i -> out(i.intValue(), 0, whats.size() - 1));
    int r = first(-1, noPlace(place) || noShelf(s), -2, askIn(s), -3, nothingIn(s), -6, none,
        -7, whats.size() > 12);
    if (r != 0) {
      return r;
    }
    int left = IntStream.range(0, whats.size())
        .filter(i -> rowIn(s).stream().noneMatch(e -> e.intValue() == i)).map(i -> 1 << i).sum();
    return peaceful(whats, left) ? 1 : 0;
  }

  private int saidAt(Map<Integer, A> group, int much) {
    return group.values().stream().mapToInt(a -> behind(a) * (100 - Math.abs(a.much - much))).sum();
  }

  int best(int place, int space) {
    List<Map<Integer, A>> groups = noPlace(place) ? List.of() : new ArrayList<>(groups(place).values());
    boolean wrong = out(space, 0, 12) || !noPlace(place) && places.get(place).level == 0;
    int r = first(-1, noPlace(place), -6, wrong, -7, groups.size() > 10);
    if (r != 0) {
      return r;
    }
    List<Integer> whats = groups.stream().map(g -> g.values().iterator().next().what).toList();
    int most = -1;
    for (int set = 0; set < 1 << groups.size(); set++) {
      if (Integer.bitCount(set) > space || !peaceful(whats, set)) {
        continue;
      }
      int[] joins = new int[groups.size()];
      int sum = 0;
      for (int g = 0; g < groups.size(); g++) {
        int own = 0;
        for (int j = 0; j < 3 && (set >> g & 1) == 1; j++) {
          int said = saidAt(groups.get(g), joined(groups.get(g), "xlc".charAt(j)));
          if (said > own) {
            own = said;
            joins[g] = j + 1;
          }
        }
        sum += own;
      }
      if (sum > most) {
        most = sum;
        best = joins;
      }
    }
    return most;
  }

  int bestOf(int i) {
    return out(i, 0, best.length - 1) ? -1 : best[i];
  }

  int said(int place) {
    if (noPlace(place) || !places.get(place).made) {
      return -1;
    }
    int sum = 0;
    for (A a : bookOf(place)) {
      for (int p : a.parts) {
        sum += behind(asks.get(p)) * (100 - Math.abs(asks.get(p).much - a.much));
      }
    }
    return sum;
  }

  private boolean comes(int mode, int what, int whom) {
    if (mode == 0) {
      return 2 * parishes(3).stream().filter(p -> asksNow(p, what, whom))
          .mapToInt(p -> places.get(p).hearths).sum() > allHearths(0);
    }
    if (mode == 1) {
      return IntStream.range(0, 3).filter(o -> !parishes(o).isEmpty()
          && 2 * count(what, whom, o, false) > parishes(o).size()).count() >= 2;
    }
    return mode == 2 && bookOf(0).stream().anyMatch(a -> a.what == what && a.whom == whom);
  }

  int other(int mode, int i) {
    int[] codes = IntStream.range(0, 128).filter(c -> comes(mode, c / 8, c % 8)).limit(16).toArray();
    return out(i, 0, codes.length - 1) ? -1 : codes[i];
  }

  int status(int what) {
    return switch (what) {
      case 0 -> places.size();
      case 1 -> asks.size();
      case 2 -> models.size();
      case 3 -> rules.size();
      case 4 -> persons.size();
      case 5 -> now;
      case 6 -> (int) places.stream().filter(p -> p.made).count();
      case 7 -> (int) asks.stream().filter(a -> a.kind == 1).count();
      case 8 -> (int) asks.stream().filter(a -> a.dropped >= 0).count();
      case 9 -> (int) asks.stream().filter(a -> a.late).count();
      case 10 -> (int) asks.stream().filter(a -> a.yielded).count();
      default -> what >= 11 && what <= 17 ? refusals[what - 10] : -1;
    };
  }
}

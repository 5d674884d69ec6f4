import java.util.ArrayList;
import java.util.List;

/** All that can be seen of an object, as calls: first those that change nothing, then others. */
final class Looks {
  /** A call on an object, and what it answers. */
  interface Call {
    long on(Books x);
  }

  record Look(String name, Call call) { }

  private final List<Look> looks = new ArrayList<>();
  private final int places;
  private final int asks;
  private final int models;
  private final int rules;
  private final int now;

  private Looks(Books x) {
    places = x.status(0);
    asks = x.status(1);
    models = x.status(2);
    rules = x.status(3);
    now = x.status(5);
  }

  /** What may be looked at in an object like this one. */
  static List<Look> at(Books x) {
    Looks at = new Looks(x);
    at.counts();
    at.shelves();
    at.places();
    at.asks();
    at.models();
    at.rules();
    at.tellings();
    at.doings();
    return at.looks;
  }

  private void look(String name, Call call) {
    looks.add(new Look(name, call));
  }

  private void counts() {
    for (int i = 0; i <= 10; i++) {
      int what = i;
      look("status " + i, x -> x.status(what));
      look("bestOf " + i, x -> x.bestOf(what));
    }
    look("fault", Books::fault);
  }

  private void shelves() {
    for (int i = 0; i < 8; i++) {
      int s = i;
      look("holds " + i, x -> x.holds(s));
      for (int j = 0; j < 60; j++) {
        int element = j;
        look("element " + i + " " + j, x -> x.element(s, element));
      }
    }
  }

  private void places() {
    for (int i = 0; i < places; i++) {
      int place = i;
      for (int j = 0; j < 8; j++) {
        int what = j;
        look("about " + i + " " + j, x -> x.about(place, what));
      }
      look("book " + i, x -> x.book(place, 0));
      look("said " + i, x -> x.said(place));
      look("path " + i, x -> x.path(place, 0));
    }
    look("no other PLACE", x -> x.about(places, 0));
  }

  private void asks() {
    for (int i = 0; i < asks; i++) {
      int ask = i;
      for (int j = 0; j < 14; j++) {
        int what = j;
        look("ask " + i + " " + j, x -> x.ask(ask, what));
      }
      look("part " + i + " 0", x -> x.part(ask, 0));
      look("part " + i + " 1", x -> x.part(ask, 1));
      look("chance " + i, x -> x.chance(ask, true));
      for (int j = 0; j < models; j++) {
        int model = j;
        look("likeness " + i + " " + j, x -> x.likeness(ask, model));
      }
    }
    look("no other ASK", x -> x.ask(asks, 0));
  }

  private void models() {
    for (int i = 0; i < models; i++) {
      int model = i;
      look("reaches " + i, x -> x.reaches(model, 0));
    }
    look("no other MODEL", x -> x.reaches(models, 0));
  }

  private void rules() {
    for (int i = 1; i <= 3; i++) {
      int level = i;
      look("force " + i + " 0", x -> x.force(level, 0));
      look("force " + i + " now", x -> x.force(level, now));
      look("force " + i + " 4000", x -> x.force(level, 4000));
    }
    for (int i = 0; i < rules; i++) {
      int rule = i;
      look("strike " + i, x -> x.strike(rule));
    }
    look("no other RULE", x -> x.strike(rules));
  }

  /** What was told, seen by telling it otherwise. */
  private void tellings() {
    for (int i = 0; i < places; i++) {
      int place = i;
      for (int j = 0; j < 16; j++) {
        int what = j;
        look("vote " + i + " " + j, x -> x.vote(place, what, 0));
      }
    }
    for (int i = 0; i < 16; i++) {
      int a = i;
      for (int j = 0; j < 16; j++) {
        int b = j;
        look("clash " + i + " " + j, x -> x.clash(a, b, false));
      }
    }
  }

  private void doings() {
    for (int i = 0; i < asks; i++) {
      int ask = i;
      look("unbind " + i, x -> x.unbind(ask));
      look("give " + i, x -> x.give(ask));
      look("bind " + i, x -> x.bind(ask));
      look("withdraw " + i, x -> x.withdraw(ask));
    }
    for (int i = 0; i < places; i++) {
      int place = i;
      look("person of " + i, x -> x.person(place, 1));
      look("unchoose " + i, x -> x.unchoose(place));
      look("make " + i, x -> x.make(place));
    }
  }
}

import java.util.function.Supplier;

/** Of REFUSALS: what each number is for, and which of two that fit comes first. */
final class EdgesOfRefusals extends Edges {
  /** SHELVES as in EdgesOfShelves: 0 a ROW of bytes, 1 an ASK, 2 NOTHING, 3 a ROW of none, 4 shorts. */
  private static final Supplier<Books> SHELVED = EdgesOfShelves.SHELVED;

  EdgesOfRefusals(Sentences document) {
    super(document);
  }

  @Override
  void run() {
    section("REFUSALS");
    inGeneral();
    numbers();
    edge("the first that fits, in this order)", () -> {
      orderOfPlaces();
      orderOfShelves();
      orderOfCopies();
      orderOfModels();
      orderOfAsks();
      orderOfRules();
      orderOfMaking();
      orderOfDeputies();
      orderOfClashes();
    });
  }

  private void inGeneral() {
    edge("REFUSALS (the call answers the number", () -> {
      Books x = SHELVED.get();
      is("-1", x.row(8, 0, 0), -1);
      is("-2", x.set(1, 0, 0), -2);
      is("-3", x.set(2, 0, 0), -3);
      is("-4", x.row(0, 0, -1), -4);
      is("-5", x.set(0, 3, 0), -5);
      is("-6", x.days(0), -6);
      is("-7", x.row(0, 0, 61), -7);
    });
    edge("nothing changes but how many there were", () -> {
      refused("-1", -1, SHELVED, x -> x.row(8, 0, 0));
      refused("-2", -2, SHELVED, x -> x.set(1, 0, 0));
      refused("-3", -3, SHELVED, x -> x.set(2, 0, 0));
      refused("-4", -4, SHELVED, x -> x.row(0, 0, -1));
      refused("-5", -5, SHELVED, x -> x.set(0, 3, 0));
      refused("-6", -6, SHELVED, x -> x.days(0));
      refused("-7", -7, SHELVED, x -> x.row(0, 0, 61));
    });
  }

  private void numbers() {
    edge("-1 NOBODY: no such SHELF, PLACE, ASK, MODEL, RULE, PERSON, KIND, LEVEL", () -> {
      Books x = SHELVED.get();
      is("SHELF", x.set(8, 0, 0), -1);
      is("PLACE", x.make(8), -1);
      is("ASK", x.withdraw(1), -1);
      is("RULE", x.strike(0), -1);
      is("KIND", x.says(1, 4), -1);
      is("LEVEL", x.rule(0, 0, 0), -1);
    });
    edge("-2 OTHER: a SHELF that holds an ASK where a ROW is wanted, or the other way about, or ROWS of two SORTS", () -> {
      Books x = SHELVED.get();
      is("an ASK, set", x.set(1, 0, 0), -2);
      is("an ASK, copy", x.copy(1, 0, 0, 0, 0), -2);
      is("an ASK, model", x.model(0, 1, 0), -2);
      is("an ASK, write", x.write(4, 0, 0, 0, 1), -2);
      is("an ASK, rule", x.rule(1, 0, 1), -2);
      is("an ASK, choose", x.choose(4, 1), -2);
      is("an ASK, judge", x.judge(4, 1), -2);
      is("a ROW, says", x.says(0, 0), -2);
      is("two SORTS", x.copy(0, 4, 0, 0, 0), -2);
    });
    edge("-3 NOTHING: a SHELF that holds NOTHING", () -> {
      Books x = SHELVED.get();
      is("set", x.set(2, 0, 0), -3);
      is("copy", x.copy(2, 0, 0, 0, 0), -3);
      is("model", x.model(0, 2, 0), -3);
      is("write", x.write(4, 0, 0, 0, 2), -3);
      is("rule", x.rule(1, 0, 2), -3);
      is("choose", x.choose(4, 2), -3);
      is("judge", x.judge(4, 2), -3);
      is("says", x.says(2, 0), -3);
      is("a ROW of none is not NOTHING", x.judge(4, 3), 1);
    });
    edge("-4 BELOW: a size below 0", () -> {
      Books x = SHELVED.get();
      is("row", x.row(0, 0, -1), -4);
      is("copy", x.copy(0, 0, 0, 0, -1), -4);
      is("0 is not below 0", x.copy(0, 0, 0, 0, 0), 1);
    });
    edge("-5 BEYOND: an element that isn't there", () -> {
      Books x = SHELVED.get();
      is("set", x.set(0, 3, 0), -5);
      is("copy", x.copy(0, 0, 0, 3, 1), -5);
      x.person(4, 0);
      is("choose", x.choose(4, 3), -5);
    });
    edge("-6 WRONG: a number that may not be, a FAULT, what can't be as things stand", () -> {
      Books x = SHELVED.get();
      is("a number", x.days(401), -6);
      is("a FAULT", x.rule(1, 0, 0), -6);
      is("as things stand", x.write(4, 1, 1, 1, 0), -6);
    });
    edge("-7 ROOM: more than may be", () -> {
      is("elements", new Books().row(0, 0, 61), -7);
      is("PLACES", EdgesOfPlaces.FULL.get().place(0, 0), -7);
      is("MODELS", EdgesOfAsks.printed(8).get().model(0, 0, 0), -7);
      is("ASKS", EdgesOfAsks.FULL.get().write(6, 0, 0, 0, 0), -7);
      is("ASKS", EdgesOfAsks.FULL.get().make(2), -7);
      is("RULES", EdgesOfRules.FULL.get().rule(1, 0, 0), -7);
      is("PERSONS", EdgesOfDeputies.crowded(20).get().person(4, 0), -7);
      is("ASKS that stand", EdgesOfClashes.asking(13).get().leave(4), -7);
      is("groups", EdgesOfClashes.asking(11).get().best(2, 1), -7);
    });
  }

  private void orderOfPlaces() {
    Supplier<Books> full = EdgesOfPlaces.FULL;
    refused("place: no PLACE, DAYS", -1, SHELVED, x -> x.place(8, 100));
    refused("place: no PLACE, no ROOM", -1, full, x -> x.place(24, 0));
    refused("place: DAYS, no ROOM", -6, full, x -> x.place(0, 100));
    refused("place: under a DISTRICT, no ROOM", -6, full, x -> x.place(2, 0));
    refused("place: under a PARISH, no ROOM", -6, full, x -> x.place(3, 0));
    refused("parish: no PLACE, DAYS", -1, SHELVED, x -> x.parish(8, -1, 0, 1));
    refused("parish: no PLACE, ORDER, HEARTHS", -1, SHELVED, x -> x.parish(-1, 0, 3, 0));
    refused("parish: no PLACE, no ROOM", -1, full, x -> x.parish(24, 0, 0, 1));
    refused("parish: DAYS, no ROOM", -6, full, x -> x.parish(2, 100, 0, 1));
    refused("parish: ORDER, no ROOM", -6, full, x -> x.parish(2, 0, 3, 1));
    refused("parish: HEARTHS, no ROOM", -6, full, x -> x.parish(2, 0, 0, 0));
    refused("parish: under a SHIRE, no ROOM", -6, full, x -> x.parish(1, 0, 0, 1));
  }

  private void orderOfShelves() {
    refused("row: no SHELF, n", -1, SHELVED, x -> x.row(8, 0, -1));
    refused("row: no SHELF, SORT", -1, SHELVED, x -> x.row(8, 4, 0));
    refused("row: no SHELF, n above 60", -1, SHELVED, x -> x.row(-1, 0, 61));
    refused("row: n, SORT", -4, SHELVED, x -> x.row(0, 4, -1));
    refused("row: SORT, n above 60", -6, SHELVED, x -> x.row(0, -1, 61));
    refused("set: no SHELF, i", -1, SHELVED, x -> x.set(8, -1, 0));
    refused("set: an ASK, i", -2, SHELVED, x -> x.set(1, -1, 0));
    refused("set: NOTHING, i", -3, SHELVED, x -> x.set(2, 60, 0));
    refused("show: no SHELF, no ASK", -1, SHELVED, x -> x.show(8, 1));
    refused("says: no KIND, a ROW", -1, SHELVED, x -> x.says(0, 4));
    refused("says: no KIND, NOTHING", -1, SHELVED, x -> x.says(2, -1));
    refused("says: no KIND, an ASK", -1, SHELVED, x -> x.says(1, 4));
    refused("says: no SHELF, no KIND", -1, SHELVED, x -> x.says(-1, 4));
  }

  private void orderOfCopies() {
    refused("copy: no SHELF, an ASK", -1, SHELVED, x -> x.copy(8, 1, 0, 0, 0));
    refused("copy: an ASK, no SHELF", -1, SHELVED, x -> x.copy(1, 8, 0, 0, 0));
    refused("copy: no SHELF, NOTHING", -1, SHELVED, x -> x.copy(8, 2, 0, 0, 0));
    refused("copy: NOTHING, no SHELF", -1, SHELVED, x -> x.copy(2, -1, 0, 0, 0));
    refused("copy: no SHELF, n", -1, SHELVED, x -> x.copy(0, 8, 0, 0, -1));
    refused("copy: no SHELF, i", -1, SHELVED, x -> x.copy(0, 8, -1, 0, 0));
    refused("copy: an ASK, NOTHING", -2, SHELVED, x -> x.copy(1, 2, 0, 0, 0));
    refused("copy: NOTHING, an ASK", -2, SHELVED, x -> x.copy(2, 1, 0, 0, 0));
    refused("copy: an ASK, n", -2, SHELVED, x -> x.copy(0, 1, 0, 0, -1));
    refused("copy: an ASK, i", -2, SHELVED, x -> x.copy(1, 0, -1, 0, 0));
    refused("copy: two SORTS, n", -2, SHELVED, x -> x.copy(0, 4, 0, 0, -1));
    refused("copy: two SORTS, j", -2, SHELVED, x -> x.copy(0, 4, 0, -1, 0));
    refused("copy: NOTHING, n", -3, SHELVED, x -> x.copy(2, 0, 0, 0, -1));
    refused("copy: to NOTHING, n", -3, SHELVED, x -> x.copy(0, 2, 0, 0, -1));
    refused("copy: NOTHING, i", -3, SHELVED, x -> x.copy(2, 0, -1, 0, 0));
    refused("copy: to NOTHING, j", -3, SHELVED, x -> x.copy(0, 2, 0, -1, 1));
    refused("copy: n, i", -4, SHELVED, x -> x.copy(0, 0, -1, 0, -1));
    refused("copy: n, j", -4, SHELVED, x -> x.copy(0, 0, 0, 9, -1));
  }

  private void orderOfModels() {
    Supplier<Books> started = EdgesOfAsks.STARTED;
    Supplier<Books> full = EdgesOfAsks.printed(8);
    refused("model: no PLACE, an ASK", -1, started, x -> x.model(0, 1, 8));
    refused("model: no PLACE, NOTHING", -1, started, x -> x.model(0, 2, 8));
    refused("model: no PLACE, WHAT", -1, started, x -> x.model(16, 0, 8));
    refused("model: no PLACE, WORDS", -1, started, x -> x.model(0, 3, 8));
    refused("model: no SHELF, WHAT", -1, started, x -> x.model(16, 8, 0));
    refused("model: no SHELF, no ROOM", -1, full, x -> x.model(0, 8, 0));
    refused("model: no PLACE, no ROOM", -1, full, x -> x.model(0, 0, 8));
    refused("model: an ASK, WHAT", -2, started, x -> x.model(16, 1, 0));
    refused("model: an ASK, no ROOM", -2, full, x -> x.model(0, 1, 0));
    refused("model: NOTHING, WHAT", -3, started, x -> x.model(16, 2, 0));
    refused("model: NOTHING, no ROOM", -3, full, x -> x.model(0, 2, 0));
    refused("model: WHAT, no ROOM", -6, full, x -> x.model(16, 0, 0));
    refused("model: WORDS, no ROOM", -6, full, x -> x.model(0, 3, 0));
  }

  private void orderOfAsks() {
    Supplier<Books> started = EdgesOfAsks.STARTED;
    Supplier<Books> full = () -> {
      Books x = EdgesOfAsks.FULL.get();
      x.show(1, 0);
      x.row(3, 0, 21);
      x.tear(7, 0);
      return x;
    };
    refused("write: no PLACE, an ASK", -1, started, x -> x.write(8, 0, 0, 0, 1));
    refused("write: no PLACE, NOTHING", -1, started, x -> x.write(8, 0, 0, 0, 2));
    refused("write: no PLACE, a number", -1, started, x -> x.write(8, 16, 8, 100, 0));
    refused("write: no SHELF, a DISTRICT", -1, started, x -> x.write(2, 0, 0, 0, 8));
    refused("write: no SHELF, no ROOM", -1, full, x -> x.write(6, 0, 0, 0, 8));
    refused("write: an ASK, a DISTRICT", -2, started, x -> x.write(2, 0, 0, 0, 1));
    refused("write: an ASK, a number", -2, started, x -> x.write(4, 16, 0, 0, 1));
    refused("write: an ASK, no ROOM", -2, full, x -> x.write(6, 0, 0, 0, 1));
    refused("write: NOTHING, it has one", -3, started, x -> x.write(4, 1, 1, 0, 2));
    refused("write: NOTHING, it is TORN", -3, started, x -> x.write(6, 0, 0, 0, 2));
    refused("write: NOTHING, no ROOM", -3, full, x -> x.write(6, 0, 0, 0, 2));
    refused("write: a SHIRE, no ROOM", -6, full, x -> x.write(1, 0, 0, 0, 0));
    refused("write: a number, no ROOM", -6, full, x -> x.write(6, 0, 0, 100, 0));
    refused("write: it has one, no ROOM", -6, full, x -> x.write(4, 0, 0, 0, 0));
    refused("write: it is TORN, no ROOM", -6, full, x -> x.write(7, 0, 0, 0, 0));
    refused("write: WORDS, no ROOM", -6, full, x -> x.write(6, 0, 0, 0, 3));
    refused("tear: no PLACE, i", -1, started, x -> x.tear(8, -1));
  }

  private void orderOfRules() {
    Supplier<Books> full = EdgesOfRules.FULL;
    refused("rule: no LEVEL, an ASK", -1, full, x -> x.rule(4, 0, 1));
    refused("rule: no LEVEL, NOTHING", -1, full, x -> x.rule(0, 0, 2));
    refused("rule: no LEVEL, DAY", -1, full, x -> x.rule(4, -1, 0));
    refused("rule: no LEVEL, a FAULT", -1, full, x -> x.rule(4, 0, 3));
    refused("rule: no SHELF, DAY", -1, full, x -> x.rule(1, 4001, 8));
    refused("rule: no SHELF, no ROOM", -1, full, x -> x.rule(1, 0, 8));
    refused("rule: no LEVEL, no ROOM", -1, full, x -> x.rule(0, 0, 0));
    refused("rule: an ASK, DAY", -2, full, x -> x.rule(1, 4001, 1));
    refused("rule: an ASK, no ROOM", -2, full, x -> x.rule(1, 0, 1));
    refused("rule: NOTHING, DAY", -3, full, x -> x.rule(1, 4001, 2));
    refused("rule: NOTHING, no ROOM", -3, full, x -> x.rule(1, 0, 2));
    refused("rule: DAY, no ROOM", -6, full, x -> x.rule(1, 4001, 0));
    refused("rule: a FAULT, no ROOM", -6, () -> {
      Books x = full.get();
      x.rule(1, 0, 3);
      return x;
    }, x -> x.rule(1, 0, 3));
    refused("vote: no PLACE, WHAT", -1, full, x -> x.vote(8, 16, 0));
    refused("vote: no PLACE, n", -1, full, x -> x.vote(8, 0, 100));
  }

  private void orderOfMaking() {
    refused("make: no PLACE, no ROOM", -1, EdgesOfAsks.FULL, x -> x.make(8));
    refused("make: a PARISH, no ROOM", -6, EdgesOfAsks.FULL, x -> x.make(4));
    Supplier<Books> made = () -> {
      Books x = EdgesOfAsks.filled(159).get();
      x.law(1, 0, "k:w>15;j:x");
      x.make(2);
      x.strike(0);
      x.write(6, 0, 0, 0, 0);
      return x;
    };
    refused("make: it was, no ROOM", -6, made, x -> x.make(2));
    refused("make: no ROOM alone", -7, made, x -> x.make(3));
  }

  private void orderOfDeputies() {
    Supplier<Books> full = EdgesOfDeputies.crowded(20);
    Supplier<Books> voting = EdgesOfDeputies.VOTING;
    refused("person: no PLACE, BORN", -1, voting, x -> x.person(8, -1));
    refused("person: no PLACE, no ROOM", -1, full, x -> x.person(8, 0));
    refused("person: a DISTRICT, no ROOM", -6, full, x -> x.person(2, 0));
    refused("person: BORN, no ROOM", -6, full, x -> x.person(4, 10000));
    refused("choose: no PLACE, an ASK", -1, voting, x -> x.choose(8, 1));
    refused("choose: no PLACE, NOTHING", -1, voting, x -> x.choose(8, 2));
    refused("choose: no SHELF, it has one", -1, voting, x -> x.choose(4, 8));
    refused("choose: no SHELF, THE TOP", -1, voting, x -> x.choose(0, 8));
    refused("choose: an ASK, it has one", -2, voting, x -> x.choose(4, 1));
    refused("choose: an ASK, THE TOP", -2, voting, x -> x.choose(0, 1));
    refused("choose: NOTHING, it has one", -3, voting, x -> x.choose(4, 2));
    refused("choose: NOTHING, no CANDIDATE", -3, voting, x -> x.choose(7, 2));
    refused("choose: fewer elements, it has one", -5, voting, x -> x.choose(4, 3));
    refused("choose: fewer elements, THE TOP", -5, () -> {
      Books x = voting.get();
      x.choose(2, 3);
      x.choose(1, 3);
      return x;
    }, x -> x.choose(0, 4));
  }

  private void orderOfClashes() {
    Supplier<Books> thirteen = EdgesOfClashes.THIRTEEN;
    refused("judge: no PLACE, an ASK", -1, thirteen, x -> x.judge(8, 1));
    refused("judge: no PLACE, NOTHING", -1, thirteen, x -> x.judge(8, 2));
    refused("judge: no PLACE, an i", -1, thirteen, x -> x.judge(8, 4));
    refused("judge: no SHELF, no ROOM", -1, thirteen, x -> x.judge(4, 8));
    refused("judge: an ASK, no ROOM", -2, thirteen, x -> x.judge(4, 1));
    refused("judge: NOTHING, no ROOM", -3, thirteen, x -> x.judge(4, 2));
    refused("judge: an i of none, no ROOM", -6, () -> {
      Books x = thirteen.get();
      x.put(4, 2, 13);
      return x;
    }, x -> x.judge(4, 4));
    refused("best: no PLACE, SPACE", -1, thirteen, x -> x.best(8, 13));
    refused("best: SPACE, no ROOM", -6, thirteen, x -> x.best(2, 13));
    refused("best: no ROOM alone", -7, thirteen, x -> x.best(2, 12));
  }
}

import java.util.function.Supplier;

/** Of PERSONS, CHOICES and what binds them: the fourth part of the terms, promises 35 to 40. */
final class EdgesOfDeputies extends Edges {
  private static final int LEAST = Integer.MIN_VALUE;
  private static final int GREATEST = Integer.MAX_VALUE;

  /** PERSONS 0 (BORN 50) and 1 (40) of PARISH 4, 2 (40) and 3 (30) of 5, 4 (20) of 6. */
  private static final Supplier<Books> PEOPLED = Books.country(x -> {
    x.person(4, 50);
    x.person(4, 40);
    x.person(5, 40);
    x.person(5, 30);
    x.person(6, 20);
  });

  /**
   * Besides, CHOICES: 0 of PARISH 4, DISTRICT 2 and SHIRE 1; 2 of PARISH 5; 4 of 6 and DISTRICT 3.
   * SHELF 5 holds two ints, both 0.
   */
  private static final Supplier<Books> CHOSEN = () -> {
    Books x = PEOPLED.get();
    x.chooses(4, 0, 0);
    x.chooses(5, 2, 2);
    x.chooses(6, 4);
    x.chooses(2, 0, 0);
    x.chooses(3, 4);
    x.chooses(1, 0, 0);
    return x;
  };

  /**
   * Besides, ASKS 0 and 1 of PARISH 4 and 2 of 6; MADE 3, 4 (DISTRICT 2), 5 (DISTRICT 3), 6, 7 (SHIRE
   * 1), 8, 9 (THE TOP). On DAY 5 the SHIRE's BOUND 7 is unbound: the word comes on DAY 8. 4 is BOUND,
   * 6 YIELDED; DISTRICT 3 has no CHOICE any more.
   */
  static final Supplier<Books> BOUND = () -> {
    Books x = CHOSEN.get();
    x.writes(4, 0, 0, 1);
    x.writes(4, 1, 0, 1);
    x.writes(6, 1, 0, 1);
    x.make(2);
    x.make(3);
    x.make(1);
    x.make(0);
    x.days(5);
    x.bind(7);
    x.unbind(7);
    x.bind(4);
    x.give(6);
    x.unchoose(3);
    return x;
  };

  EdgesOfDeputies(Sentences document) {
    super(document);
  }

  @Override
  void run() {
    termsOfPersons();
    termsOfVotes();
    termsOfMostVotes();
    termsOfVoid();
    termsOfBinding();
    termsOfWords();
    person();
    chooseIs();
    chooseIsRefused();
    unchoose();
    bind();
    unbind();
    give();
  }

  private void termsOfPersons() {
    terms(4);
    edge("PERSONS have numbers, from 0 on, 20 at most: each of a PARISH, BORN (0 to 9,999)", () -> {
      Books x = Books.country();
      for (int i = 0; i < 20; i++) {
        is("PERSON " + i, x.person(4 + i % 4, i == 0 ? 0 : 9999), i);
      }
      is("a 21st", x.person(4, 0), -7);
      is("how many", x.status(4), 20);
      is("each of a PARISH", x.chooses(7, 19, 19, 19, 3, 3), 19);
      is("BORN", x.chooses(4, 99, 99, 99, 99, 99), 0);
      Books y = Books.country();
      is("BORN -1", y.person(4, -1), -6);
      is("BORN 10,000", y.person(4, 10000), -6);
      is("of a DISTRICT", y.person(2, 0), -6);
    });
  }

  private void termsOfVotes() {
    edge("A PLACE's CHOICE is made by votes: CANDIDATES: of a PARISH its PERSONS; of others the CHOICES of PLACES under it", () -> {
      Books x = PEOPLED.get();
      is("no CHOICES under it", x.chooses(2, 0, 0), -6);
      is("its PERSONS", x.chooses(4, 0, 0), 0);
      is("another's PERSONS", x.chooses(5, 0, 0), 3);
      is("a PERSON, but no CHOICE", x.chooses(2, 1, 1), 3);
      is("a CHOICE under it, not right under it", x.chooses(1, 0, 0), 3);
      x.unchoose(2);
      is("a CHOICE under it", x.chooses(2, 0, 0), 0);
      is("not one of another DISTRICT", x.chooses(3, 0, 0), -6);
    });
    edge("as many votes as CANDIDATES there are (PERSONS, or PLACES with a CHOICE, by numbers), those for no CANDIDATE don't count", () -> {
      Books x = PEOPLED.get();
      is("one of two", x.chooses(4, 0), -5);
      is("none of two", x.chooses(4), -5);
      is("two", x.chooses(4, 0, 9), 0);
      is("a third one is no vote", x.chooses(5, 2, 77, 3, 3), 2);
      is("of one CHOICE and another", x.chooses(2, 0), -5);
      x.unchoose(5);
      is("of one CHOICE", x.chooses(2, 2), 0);
      x.unchoose(2);
      is("a second one is no vote", x.chooses(2, 0, 2), 0);
      is("none for a CANDIDATE", x.chooses(5, -1, 20), 3);
      x.unchoose(5);
      is("the ends of ints", x.chooses(5, LEAST, GREATEST), 3);
    });
  }

  private void termsOfMostVotes() {
    edge("Most votes; of several the elder (lesser BORN), then the lesser number", () -> {
      Books x = Books.country();
      int[] born = {60, 40, 40, 50, 9999, 0};
      for (int i = 0; i < 6; i++) {
        x.person(4, born[i]);
      }
      long[][] votes = {{4, 4, 0, 1, 2, 3}, {4, 4, 0, 0, 2, 1}, {4, 4, 5, 5, 1, 1}, {1, 2, 2, 1, 4, 4},
        {2, 1, 3, 9, 9, 9}, {0, 3, 4, 9, 9, 9}, {2, 2, 3, 3, 3, 2}, {9, 9, 9, 9, 9, 9}, {4, 9, 9, 9, 9, 9}};
      int[] chosen = {4, 0, 5, 1, 1, 3, 2, 5, 4};
      for (int i = 0; i < votes.length; i++) {
        is("votes " + i, x.chooses(4, votes[i]), chosen[i]);
        x.unchoose(4);
      }
    });
  }

  private void termsOfVoid() {
    edge("A CHOICE found void is none, and so are those of PLACES above, one after the other, as long as it is that PERSON", () -> {
      Books x = CHOSEN.get();
      is("a PARISH's, a DISTRICT's and a SHIRE's", x.unchoose(4), 3);
      is("none", x.about(4, 6) + x.about(2, 6) + x.about(1, 6), -3);
      is("others stay", x.about(5, 6), 2);
      is("others stay", x.about(3, 6), 4);
      Books y = CHOSEN.get();
      is("another PERSON's above", y.unchoose(6), 2);
      is("that stays", y.about(1, 6), 0);
      is("a DISTRICT's and a SHIRE's", y.unchoose(2), 2);
      is("those below stay", y.about(4, 6), 0);
      y.chooses(2, 2, 2);
      is("another PERSON between", y.unchoose(4), 1);
      is("a DISTRICT's alone", y.unchoose(2), 1);
      is("below it stays", y.about(5, 6), 2);
    });
  }

  private void termsOfBinding() {
    edge("A MERGED ASK of a DISTRICT or SHIRE that has a CHOICE may be BOUND: its CHOICE may not YIELD on it at THE TOP", () -> {
      Books x = BOUND.get();
      is("of a DISTRICT", x.bind(3), 0);
      is("it may not", x.give(3), -6);
      x.days(400);
      is("nor later", x.give(3), -6);
      is("of a DISTRICT without one", x.bind(5), -6);
      is("of THE TOP", x.bind(8), -6);
      is("of a PARISH", x.bind(0), -6);
      Books y = BOUND.get();
      is("not BOUND, it may", y.give(3), 0);
      Books z = CHOSEN.get();
      z.writes(4, 0, 0, 0);
      z.make(2);
      z.make(1);
      is("of a SHIRE", z.bind(2), 0);
      is("it may not", z.give(2), -6);
    });
    edge("What was YIELDED stays so", () -> {
      Books x = BOUND.get();
      is("YIELDED", x.ask(6, 13), 1);
      x.unchoose(4);
      is("without a CHOICE", x.ask(6, 13), 1);
      x.chooses(4, 1, 1);
      x.chooses(2, 1, 1);
      x.chooses(1, 1);
      is("with another", x.ask(6, 13), 1);
      is("not to be BOUND", x.bind(6), -6);
      is("nor YIELDED again", x.give(6), -6);
      is("how many", x.status(10), 1);
    });
  }

  private void termsOfWords() {
    edge("unless a word that unbinds it, sent from that PLACE on a DAY, came there (that DAY and PATH to THE TOP) on NOW or earlier", () -> {
      Books x = BOUND.get();
      is("of a SHIRE, on its way", x.give(7), -6);
      x.days(2);
      is("a DAY ahead", x.give(7), -6);
      x.days(1);
      is("on the DAY", x.give(7), 0);
      is("from a DISTRICT", x.unbind(4), 13);
      x.days(4);
      is("a DAY ahead", x.give(4), -6);
      x.days(2);
      is("a DAY later", x.give(4), 0);
      Books y = Books.bare(z -> {
        z.place(0, 0);
        z.place(1, 0);
        z.parish(2, 0, 0, 1);
        z.person(3, 0);
        z.chooses(3, 0);
        z.chooses(2, 0);
        z.writes(3, 0, 0, 0);
        z.make(2);
        z.bind(1);
      }).get();
      is("over no DAYS", y.unbind(1), 0);
      is("it is there", y.give(1), 0);
    });
  }

  private void person() {
    promise(35);
    edge("A PERSON of a PARISH: its number", () -> {
      Books x = PEOPLED.get();
      is("BORN 0", x.person(7, 0), 5);
      is("BORN 9,999", x.person(4, 9999), 6);
      is("how many", x.status(4), 7);
    });
    edge("-1", () -> {
      for (int p : new int[] {-1, 8, LEAST, GREATEST}) {
        refused("PLACE " + p, -1, PEOPLED, x -> x.person(p, 0));
      }
    });
    edge("-6 no PARISH, BORN", () -> {
      for (int p = 0; p < 4; p++) {
        int place = p;
        refused("PLACE " + p, -6, PEOPLED, x -> x.person(place, 0));
      }
      for (int born : new int[] {-1, 10000, LEAST, GREATEST}) {
        refused("BORN " + born, -6, PEOPLED, x -> x.person(4, born));
      }
    });
    edge("-7", () -> {
      is("the 20th", crowded(19).get().person(4, 0), 19);
      refused("a 21st", -7, crowded(20), x -> x.person(4, 0));
    });
  }

  static Supplier<Books> crowded(int persons) {
    return Books.country(x -> {
      for (int i = 0; i < persons; i++) {
        x.person(4, i);
      }
    });
  }

  /** PEOPLED, and SHELF 0 holds two ints, 1 an ASK, 2 NOTHING, 3 one int, 4 a ROW of none. */
  static final Supplier<Books> VOTING = () -> {
    Books x = PEOPLED.get();
    x.put(0, 2, 0, 0);
    x.writes(4, 0, 0, 0);
    x.show(1, 0);
    x.put(3, 2, 0);
    x.row(4, 2, 0);
    x.choose(4, 0);
    return x;
  };

  private void chooseIs() {
    promise(36);
    edge("The CHOICE of a PLACE by the votes in SHELF s (elements as ints): who", () -> {
      Books x = VOTING.get();
      is("of a DISTRICT", x.choose(2, 3), 0);
      is("of a SHIRE", x.choose(1, 3), 0);
      is("CHOICE", x.about(1, 6), 0);
      Books y = PEOPLED.get();
      y.put(0, 3, 2 + (1L << 32), 2 - (1L << 33));
      is("of longs the lowest 32 bits", y.choose(5, 0), 2);
      y.put(0, 0, 1 + 256, 1);
      is("of bytes", y.choose(4, 0), 1);
      y.row(0, 2, 60);
      is("60 votes", y.choose(6, 0), 4);
      Books z = crowded(20).get();
      z.put(0, 2, 19, 19, 18, 18, 18, 0, 1, 2, 3, 4, 5, 6, 7, 8, 9, 10, 11, 12, 13, 19);
      is("20 votes", z.choose(4, 0), 18);
    });
    edge("-1 either", () -> {
      for (int n : new int[] {-1, 8, LEAST, GREATEST}) {
        refused("PLACE " + n, -1, VOTING, x -> x.choose(n, 0));
        refused("SHELF " + n, -1, VOTING, x -> x.choose(5, n));
      }
    });
    edge("-2", () -> refused("an ASK", -2, VOTING, x -> x.choose(5, 1)));
    edge("-3", () -> refused("NOTHING", -3, VOTING, x -> x.choose(5, 2)));
  }

  private void chooseIsRefused() {
    edge("-5 fewer elements than votes", () -> {
      refused("one of two", -5, VOTING, x -> x.choose(5, 3));
      refused("none of two", -5, VOTING, x -> x.choose(5, 4));
      refused("none of one, of a DISTRICT", -5, VOTING, x -> x.choose(2, 4));
      is("two of two", VOTING.get().choose(5, 0), 3);
    });
    edge("-6 it has one, no CANDIDATE, THE TOP", () -> {
      refused("a PARISH has one", -6, VOTING, x -> x.choose(4, 0));
      refused("a SHIRE has one", -6, CHOSEN, x -> x.choose(1, 5));
      refused("no PERSONS", -6, VOTING, x -> x.choose(7, 0));
      refused("no PERSONS, no elements", -6, VOTING, x -> x.choose(7, 4));
      refused("no CHOICES", -6, VOTING, x -> x.choose(3, 4));
      refused("no CHOICES right under it", -6, VOTING, x -> x.choose(1, 0));
      refused("THE TOP without CANDIDATES", -6, VOTING, x -> x.choose(0, 0));
      refused("THE TOP with one", -6, CHOSEN, x -> x.choose(0, 5));
    });
  }

  private void unchoose() {
    promise(37);
    edge("A CHOICE is void: how many are", () -> {
      is("three", CHOSEN.get().unchoose(4), 3);
      is("two", CHOSEN.get().unchoose(2), 2);
      is("one", CHOSEN.get().unchoose(1), 1);
      is("of another", CHOSEN.get().unchoose(5), 1);
    });
    edge("-1", () -> {
      for (int p : new int[] {-1, 8, LEAST, GREATEST}) {
        refused("PLACE " + p, -1, CHOSEN, x -> x.unchoose(p));
      }
    });
    edge("-6 there is none", () -> {
      refused("a PARISH", -6, CHOSEN, x -> x.unchoose(7));
      refused("THE TOP", -6, CHOSEN, x -> x.unchoose(0));
      Supplier<Books> gone = () -> {
        Books x = CHOSEN.get();
        x.unchoose(4);
        return x;
      };
      refused("a PARISH", -6, gone, x -> x.unchoose(4));
      refused("a DISTRICT above", -6, gone, x -> x.unchoose(2));
      refused("a SHIRE above", -6, gone, x -> x.unchoose(1));
    });
  }

  private void bind() {
    promise(38);
    edge("A MERGED ASK is BOUND: by whom", () -> {
      Books x = BOUND.get();
      is("of a DISTRICT", x.bind(3), 0);
      is("BOUND", x.ask(3, 0), 3);
      x.unchoose(2);
      x.chooses(2, 2, 2);
      is("BOUND still", x.ask(3, 0), 3);
      Books y = CHOSEN.get();
      y.writes(6, 0, 0, 0);
      y.make(3);
      is("by another", y.bind(1), 4);
    });
    edge("-1", () -> {
      for (int ask : new int[] {-1, 10, LEAST, GREATEST}) {
        refused("ASK " + ask, -1, BOUND, x -> x.bind(ask));
      }
    });
    edge("-6 another KIND (BOUND, too), of THE TOP, its PLACE has no CHOICE, it was YIELDED", () -> {
      refused("of a PARISH", -6, BOUND, x -> x.bind(0));
      refused("BORROWED", -6, EdgesOfShelves.KINDS, x -> x.bind(1));
      refused("BOUND", -6, BOUND, x -> x.bind(4));
      refused("BOUND, the word on its way", -6, BOUND, x -> x.bind(7));
      refused("BOUND, the word came", -6, () -> {
        Books x = BOUND.get();
        x.days(400);
        return x;
      }, x -> x.bind(7));
      refused("of THE TOP", -6, BOUND, x -> x.bind(8));
      refused("no CHOICE", -6, BOUND, x -> x.bind(5));
      refused("YIELDED", -6, BOUND, x -> x.bind(6));
    });
  }

  private void unbind() {
    promise(39);
    edge("A word that unbinds a BOUND ASK is sent: the DAY on which it comes", () -> {
      Books x = BOUND.get();
      is("DAY 5 and 5 DAYS", x.unbind(4), 10);
      Books y = BOUND.get();
      y.unchoose(2);
      y.days(400);
      is("without a CHOICE, on DAY 405", y.unbind(4), 410);
      Books z = BOUND.get();
      for (int i = 0; i < 9; i++) {
        z.days(400);
      }
      z.days(395);
      is("beyond the last DAY", z.unbind(4), 4005);
      is("it never comes", z.give(4), -6);
    });
    edge("-1", () -> {
      for (int ask : new int[] {-1, 10, LEAST, GREATEST}) {
        refused("ASK " + ask, -1, BOUND, x -> x.unbind(ask));
      }
    });
    edge("-6 it isn't BOUND, one was sent", () -> {
      refused("MERGED", -6, BOUND, x -> x.unbind(3));
      refused("of a PARISH", -6, BOUND, x -> x.unbind(0));
      refused("of THE TOP", -6, BOUND, x -> x.unbind(8));
      refused("on its way", -6, BOUND, x -> x.unbind(7));
      refused("it came", -6, () -> {
        Books x = BOUND.get();
        x.days(3);
        return x;
      }, x -> x.unbind(7));
    });
  }

  private void give() {
    promise(40);
    edge("The CHOICE of the ASK's PLACE YIELDS on it: who", () -> {
      Books x = BOUND.get();
      is("MERGED", x.give(3), 0);
      is("YIELDED", x.ask(3, 13), 1);
      is("of another KIND it is not", x.ask(3, 0), 2);
      x.days(3);
      is("BOUND, the word came", x.give(7), 0);
      is("BOUND by KIND", x.ask(7, 0), 3);
      x.chooses(3, 4);
      is("another CHOICE", x.give(5), 4);
    });
    edge("-1", () -> {
      for (int ask : new int[] {-1, 10, LEAST, GREATEST}) {
        refused("ASK " + ask, -1, BOUND, x -> x.give(ask));
      }
    });
    edge("-6 not MERGED, nor BOUND, of THE TOP, no CHOICE, it was YIELDED, it is BOUND still", () -> {
      refused("of a PARISH", -6, BOUND, x -> x.give(0));
      refused("BORROWED", -6, EdgesOfShelves.KINDS, x -> x.give(1));
      refused("of THE TOP", -6, BOUND, x -> x.give(8));
      refused("no CHOICE", -6, BOUND, x -> x.give(5));
      refused("YIELDED", -6, BOUND, x -> x.give(6));
      refused("BOUND still", -6, BOUND, x -> x.give(4));
      refused("the word on its way", -6, BOUND, x -> x.give(7));
      refused("the word came, no CHOICE", -6, () -> {
        Books x = BOUND.get();
        x.days(3);
        x.unchoose(1);
        return x;
      }, x -> x.give(7));
    });
  }
}

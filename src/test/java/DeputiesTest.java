/** Promises 35 to 40. */
public final class DeputiesTest {
  private static final Due due = new Due("DeputiesTest");

  public static void main(String[] args) {
    person();
    choosePerson();
    chooseByBirth();
    chooseAbove();
    chooseRefused();
    unchoose();
    bind();
    unbind();
    give();
    giveAtTheDay();
    due.close();
  }

  /** PERSONS 0, 1 of PARISH 4; 2, 3 of 5; 4 of 6. */
  private static ComplaintBooks peopled() {
    ComplaintBooks x = Setup.country();
    x.person(4, 50);
    x.person(4, 40);
    x.person(5, 40);
    x.person(5, 30);
    x.person(6, 20);
    return x;
  }

  private static int choose(ComplaintBooks x, int place, long... votes) {
    Setup.row(x, 5, 2, votes);
    return x.choose(place, 5);
  }

  private static void person() {
    ComplaintBooks x = Setup.country();
    due.is("person", x.person(4, 0), 0);
    due.is("person", x.person(7, 9999), 1);
    due.is("no PLACE", x.person(8, -1), -1);
    due.is("no PLACE", x.person(-1, 0), -1);
    due.is("BORN", x.person(4, 10000), -6);
    due.is("BORN", x.person(4, -1), -6);
    due.is("a DISTRICT", x.person(2, 5), -6);
    due.is("THE TOP", x.person(0, 5), -6);
    for (int i = 2; i < 20; i++) {
      due.is("person " + i, x.person(5, i), i);
    }
    due.is("a 21st", x.person(5, 5), -7);
    due.is("a 21st, BORN", x.person(5, 10000), -6);
    due.is("PERSONS", x.status(4), 20);
  }

  private static void choosePerson() {
    ComplaintBooks x = peopled();
    due.is("fewer elements than votes", choose(x, 4, 0), -5);
    due.is("most votes", choose(x, 4, 0, 0), 0);
    due.is("it has one", choose(x, 4, 1, 1), -6);
    due.is("it has one, fewer elements", choose(x, 4, 1), -5);
    due.is("CHOICE", x.about(4, 6), 0);
    due.is("those for no CANDIDATE don't count", choose(x, 5, 2, 0), 2);
    due.is("a vote for no PERSON", choose(x, 6, 77), 4);
    x.unchoose(5);
    due.is("more elements than votes", choose(x, 5, 2, 3, 2, 2), 3);
    x.unchoose(5);
    due.is("no vote counts: the elder", choose(x, 5, -1, 99), 3);
    x.unchoose(5);
    Setup.row(x, 5, 3, 2 + (1L << 32), 2 - (1L << 40));
    due.is("of longs the lowest 32 bits", x.choose(5, 5), 2);
  }

  private static void chooseByBirth() {
    ComplaintBooks x = Setup.country();
    x.person(4, 50);
    x.person(4, 40);
    x.person(4, 40);
    x.person(4, 60);
    due.is("the elder", choose(x, 4, 0, 1, 1, 0), 1);
    x.unchoose(4);
    due.is("the lesser number", choose(x, 4, 2, 1, 0, 3), 1);
    x.unchoose(4);
    due.is("most votes ahead of that", choose(x, 4, 3, 1, 3, 0), 3);
    x.unchoose(4);
    due.is("of those with most votes", choose(x, 4, 3, 0, 3, 0), 0);
    x.unchoose(4);
    due.is("of those with most votes", choose(x, 4, 2, 9, 2, 1), 2);
  }

  private static void chooseAbove() {
    ComplaintBooks x = peopled();
    due.is("no CANDIDATE", choose(x, 2, 0, 1), -6);
    due.is("no CANDIDATE, no elements", choose(x, 2), -6);
    choose(x, 4, 0, 0);
    choose(x, 5, 2, 2);
    due.is("as many votes as CHOICES", choose(x, 2, 0), -5);
    due.is("a PERSON who is no CANDIDATE", choose(x, 2, 1, 0), 0);
    choose(x, 6, 4);
    due.is("one of one", choose(x, 3, 4), 4);
    due.is("the SHIRE: the elder", choose(x, 1, 0, 4), 4);
    due.is("THE TOP", choose(x, 0, 4), -6);
    due.is("THE TOP has none", x.about(0, 6), -1);
    due.is("THE TOP, fewer elements", choose(x, 0), -5);
    due.is("the SHIRE's", x.about(1, 6), 4);
  }

  private static void chooseRefused() {
    ComplaintBooks x = peopled();
    Setup.row(x, 0, 0, 0, 0);
    Setup.ask(x, 4, 1, 1, 1);
    x.show(1, 0);
    due.is("no PLACE", x.choose(8, 1), -1);
    due.is("no PLACE", x.choose(-1, 0), -1);
    due.is("no SHELF", x.choose(4, 8), -1);
    due.is("no SHELF", x.choose(4, -1), -1);
    due.is("an ASK", x.choose(0, 1), -2);
    due.is("NOTHING", x.choose(0, 2), -3);
    due.is("a PARISH without PERSONS", x.choose(7, 0), -6);
    x.row(0, 0, 0);
    due.is("without PERSONS, none needed", x.choose(7, 0), -6);
    due.is("nothing changed", x.about(4, 6), -1);
  }

  private static void unchoose() {
    ComplaintBooks x = peopled();
    choose(x, 4, 0, 0);
    choose(x, 5, 2, 2);
    choose(x, 6, 4);
    choose(x, 2, 0, 0);
    choose(x, 3, 4);
    choose(x, 1, 0, 0);
    due.is("the SHIRE's", x.about(1, 6), 0);
    due.is("another PERSON's", x.unchoose(6), 2);
    due.is("of the DISTRICT too", x.about(3, 6), -1);
    due.is("the SHIRE's stays", x.about(1, 6), 0);
    due.is("of the SHIRE alone", x.unchoose(1), 1);
    due.is("the DISTRICT's stays", x.about(2, 6), 0);
    due.is("there is none", x.unchoose(1), -6);
    choose(x, 1, 0);
    due.is("all", x.unchoose(4), 3);
    due.is("none", x.about(4, 6) + x.about(2, 6) + x.about(1, 6), -3);
    due.is("another PARISH's stays", x.about(5, 6), 2);
    due.is("no PLACE", x.unchoose(8), -1);
    due.is("no PLACE", x.unchoose(-1), -1);
    due.is("THE TOP", x.unchoose(0), -6);
    choose(x, 4, 1, 1);
    due.is("chosen anew", x.about(4, 6), 1);
    choose(x, 2, 1, 1);
    x.unchoose(2);
    choose(x, 2, 2, 2);
    due.is("the one above is another's", x.unchoose(4), 1);
    due.is("it stays", x.about(2, 6), 2);
  }

  /** ASK 2 of DISTRICT 2, 3 of SHIRE 1, 4 of THE TOP; CHOICES of 4, 2: PERSON 0; of 1: none. */
  private static ComplaintBooks booked() {
    ComplaintBooks x = peopled();
    Setup.ask(x, 4, 1, 1, 1);
    Setup.ask(x, 5, 1, 1, 1);
    x.make(2);
    x.make(1);
    x.make(0);
    choose(x, 4, 0, 0);
    choose(x, 2, 0);
    return x;
  }

  private static void bind() {
    ComplaintBooks x = booked();
    due.is("of a PARISH", x.bind(0), -6);
    due.is("of THE TOP", x.bind(4), -6);
    due.is("of a SHIRE without a CHOICE", x.bind(3), -6);
    due.is("no ASK", x.bind(5), -1);
    due.is("no ASK", x.bind(-1), -1);
    due.is("bind", x.bind(2), 0);
    due.is("KIND", x.ask(2, 0), 3);
    due.is("BOUND, too", x.bind(2), -6);
    choose(x, 1, 0);
    due.is("of a SHIRE", x.bind(3), 0);
    ComplaintBooks y = booked();
    due.is("yielded", y.give(2), 0);
    due.is("it was YIELDED", y.bind(2), -6);
    due.is("KIND", y.ask(2, 0), 2);
  }

  private static void unbind() {
    ComplaintBooks x = booked();
    due.is("it isn't BOUND", x.unbind(2), -6);
    due.is("a PARISH's", x.unbind(0), -6);
    x.bind(2);
    x.days(7);
    due.is("unbind", x.unbind(2), 12);
    due.is("one was sent", x.unbind(2), -6);
    due.is("BOUND still of that KIND", x.ask(2, 0), 3);
    x.days(50);
    due.is("one was sent", x.unbind(2), -6);
    due.is("it came: not to be BOUND again", x.bind(2), -6);
    due.is("no ASK", x.unbind(5), -1);
    due.is("no ASK", x.unbind(-1), -1);
    choose(x, 1, 0);
    x.bind(3);
    x.unchoose(1);
    due.is("a SHIRE's, without a CHOICE by now", x.unbind(3), 60);
  }

  private static void give() {
    ComplaintBooks x = booked();
    due.is("a PARISH's", x.give(0), -6);
    due.is("THE TOP's", x.give(4), -6);
    due.is("no CHOICE", x.give(3), -6);
    due.is("no ASK", x.give(5), -1);
    due.is("no ASK", x.give(-1), -1);
    due.is("not BOUND", x.give(2), 0);
    due.is("YIELDED", x.ask(2, 13), 1);
    due.is("it was", x.give(2), -6);
    x.unchoose(4);
    due.is("that stays", x.ask(2, 13), 1);
    due.is("YIELDED ones", x.status(10), 1);
    due.is("another one isn't", x.ask(3, 13), 0);
  }

  private static void giveAtTheDay() {
    ComplaintBooks x = booked();
    x.bind(2);
    due.is("BOUND", x.give(2), -6);
    x.days(10);
    due.is("BOUND still", x.give(2), -6);
    x.unbind(2);
    due.is("the word is on its way", x.give(2), -6);
    x.days(4);
    due.is("on its way", x.give(2), -6);
    x.days(1);
    x.unchoose(4);
    due.is("no CHOICE", x.give(2), -6);
    choose(x, 4, 1, 1);
    choose(x, 2, 1);
    due.is("it came, another CHOICE", x.give(2), 1);
    due.is("it was YIELDED", x.give(2), -6);
    due.is("KIND", x.ask(2, 0), 3);
  }
}

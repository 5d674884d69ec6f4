/** Promises 14 to 26. */
public final class AsksTest {
  private static final Due due = new Due("AsksTest");

  public static void main(String[] args) {
    model();
    modelRefused();
    reaches();
    write();
    writeRefused();
    asksAreFew();
    borrowedAtAll();
    borrowedFromWhich();
    wordsAsTheyWere();
    withdraw();
    tear();
    tearRefused();
    ask();
    late();
    likeness();
    chance();
    less();
    partEndLost();
    partsByPlaces();
    book();
    due.close();
  }

  private static void model() {
    ComplaintBooks x = Setup.country();
    Setup.row(x, 0, 0, 1, 2, 3);
    x.row(1, 3, 20);
    x.row(2, 2, 0);
    due.is("model", x.model(0, 0, 0), 0);
    due.is("of 20 WORDS, in a PARISH", x.model(15, 1, 7), 1);
    due.is("of no WORDS", x.model(15, 2, 7), 2);
    due.is("MODELS", x.status(2), 3);
    for (int i = 3; i < 8; i++) {
      due.is("model " + i, x.model(1, 0, 0), i);
    }
    due.is("a 9th", x.model(1, 0, 0), -7);
    due.is("a 9th, WHAT", x.model(16, 0, 0), -6);
    due.is("MODELS", x.status(2), 8);
  }

  private static void modelRefused() {
    ComplaintBooks x = Setup.country();
    x.row(0, 0, 3);
    x.row(1, 0, 21);
    Setup.ask(x, 4, 0, 0, 0);
    x.show(2, 0);
    due.is("no SHELF", x.model(16, 8, 0), -1);
    due.is("no SHELF", x.model(0, -1, 0), -1);
    due.is("no PLACE", x.model(0, 2, 8), -1);
    due.is("no PLACE", x.model(0, 0, -1), -1);
    due.is("an ASK", x.model(16, 2, 0), -2);
    due.is("NOTHING", x.model(16, 3, 0), -3);
    due.is("WHAT 16", x.model(16, 0, 0), -6);
    due.is("WHAT -1", x.model(-1, 0, 0), -6);
    due.is("21 WORDS", x.model(0, 1, 0), -6);
    due.is("MODELS", x.status(2), 0);
  }

  private static void reaches() {
    ComplaintBooks x = Setup.country();
    x.row(0, 0, 3);
    x.days(10);
    x.model(0, 0, 5);
    x.days(10);
    due.is("where it is printed", x.reaches(0, 5), 10);
    due.is("above", x.reaches(0, 2), 12);
    due.is("a PARISH far off", x.reaches(0, 7), 23);
    due.is("THE TOP", x.reaches(0, 0), 17);
    due.is("no MODEL", x.reaches(1, 0), -1);
    due.is("no MODEL", x.reaches(-1, 0), -1);
    due.is("no PLACE", x.reaches(0, 8), -1);
    due.is("no PLACE", x.reaches(0, -1), -1);
    due.is("no REFUSAL", Setup.refusals(x, -1), 0);
  }

  private static void write() {
    ComplaintBooks x = Setup.country();
    x.row(0, 0, 20);
    x.row(1, 3, 0);
    due.is("the least, 20 WORDS", x.write(4, 0, 0, 0, 0), 0);
    due.is("the greatest, no WORDS", x.write(4, 15, 7, 99, 1), 1);
    due.is("the same in another PARISH", x.write(5, 0, 0, 1, 0), 2);
    due.is("the same WHAT", x.write(4, 0, 1, 1, 0), 3);
    due.is("the same WHOM", x.write(4, 1, 0, 1, 0), 4);
    due.is("the same WHAT and WHOM", x.write(4, 0, 0, 1, 0), -6);
    x.withdraw(0);
    due.is("the same, WITHDRAWN", x.write(4, 0, 0, 1, 0), 5);
    due.is("the same again", x.write(4, 0, 0, 1, 0), -6);
    due.is("ASKS", x.status(1), 6);
  }

  private static void writeRefused() {
    ComplaintBooks x = Setup.country();
    x.row(0, 0, 3);
    x.row(1, 0, 21);
    Setup.ask(x, 5, 0, 0, 0);
    x.show(2, 0);
    due.is("no PLACE", x.write(8, 16, 0, 0, 2), -1);
    due.is("no PLACE", x.write(-1, 0, 0, 0, 0), -1);
    due.is("no SHELF", x.write(4, 0, 0, 0, 8), -1);
    due.is("no SHELF", x.write(4, 0, 0, 0, -1), -1);
    due.is("an ASK", x.write(2, 0, 0, 0, 2), -2);
    due.is("NOTHING", x.write(2, 0, 0, 0, 3), -3);
    due.is("a DISTRICT", x.write(2, 0, 0, 0, 0), -6);
    due.is("THE TOP", x.write(0, 0, 0, 0, 0), -6);
    due.is("WHAT 16", x.write(4, 16, 0, 0, 0), -6);
    due.is("WHAT -1", x.write(4, -1, 0, 0, 0), -6);
    due.is("WHOM 8", x.write(4, 0, 8, 0, 0), -6);
    due.is("WHOM -1", x.write(4, 0, -1, 0, 0), -6);
    due.is("MUCH 100", x.write(4, 0, 0, 100, 0), -6);
    due.is("MUCH -1", x.write(4, 0, 0, -1, 0), -6);
    due.is("21 WORDS", x.write(4, 0, 0, 0, 1), -6);
    x.tear(4, 0);
    due.is("TORN", x.write(4, 0, 0, 0, 0), -6);
    due.is("ASKS", x.status(1), 1);
    due.is("-6", Setup.refusals(x, -6), 10);
  }

  private static void asksAreFew() {
    ComplaintBooks x = Setup.country();
    x.row(0, 0, 1);
    for (int i = 0; i < 160; i++) {
      due.is("write " + i, x.write(4 + i / 128, i / 8 % 16, i % 8, 1, 0), i);
    }
    due.is("a 161st", x.write(7, 0, 0, 1, 0), -7);
    due.is("a 161st, MUCH", x.write(7, 0, 0, 100, 0), -6);
    due.is("an ASK more by make", x.make(2), -7);
    due.is("not MADE", x.about(2, 5), 0);
    due.is("none of none", x.make(3), 0);
    due.is("ASKS", x.status(1), 160);
    due.is("ASKS of a PARISH", x.about(4, 4), 128);
    due.is("the last", x.book(5, 31), 159);
  }

  private static int kindOf(ComplaintBooks x, int ask) {
    return x.ask(ask, 0);
  }

  private static void borrowedAtAll() {
    ComplaintBooks x = Setup.country();
    Setup.row(x, 0, 0, 1, 2, 3, 4, 5, 6);
    x.days(5);
    x.model(1, 0, 4);
    due.is("in its PLACE on its DAY", kindOf(x, x.write(4, 1, 0, 0, 0)), 1);
    due.is("another WHAT", kindOf(x, x.write(4, 2, 0, 0, 0)), 0);
    due.is("not there yet", kindOf(x, x.write(5, 1, 0, 0, 0)), 0);
    x.days(2);
    due.is("not there yet", kindOf(x, x.write(5, 1, 1, 0, 0)), 0);
    x.days(1);
    due.is("there on the DAY", kindOf(x, x.write(5, 1, 2, 0, 0)), 1);
    Setup.row(x, 0, 3, 3, 5, 6);
    due.is("LEAST of three", kindOf(x, x.write(4, 1, 1, 0, 0)), 1);
    Setup.row(x, 0, 0, 3, 5);
    due.is("two", kindOf(x, x.write(4, 1, 2, 0, 0)), 0);
    Setup.row(x, 0, 0, 2, 3, 5, 0, 0, 0);
    due.is("half of six", kindOf(x, x.write(4, 1, 3, 0, 0)), 1);
    Setup.row(x, 0, 0, 2, 3, 5, 0, 0, 0, 0);
    due.is("less than half of seven", kindOf(x, x.write(4, 1, 4, 0, 0)), 0);
    Setup.row(x, 0, 0, 6, 5, 4, 3, 2, 1);
    due.is("not in order", kindOf(x, x.write(4, 1, 5, 0, 0)), 0);
    Setup.row(x, 0, 0, 1, 1, 1, 1);
    due.is("each once", kindOf(x, x.write(4, 1, 6, 0, 0)), 0);
    due.is("BORROWED", x.status(7), 4);
  }

  private static void borrowedFromWhich() {
    ComplaintBooks x = Setup.country();
    Setup.row(x, 0, 0, 1, 2, 3);
    x.model(1, 0, 4);
    Setup.row(x, 0, 0, 1, 2, 3, 4);
    x.model(1, 0, 4);
    x.model(1, 0, 4);
    Setup.row(x, 0, 0, 1, 2, 3, 4, 5);
    x.model(1, 0, 5);
    x.model(2, 0, 4);
    int a = x.write(4, 1, 0, 0, 0);
    due.is("the greatest LIKENESS, the least number", x.ask(a, 12), 1);
    x.days(3);
    int b = x.write(4, 1, 1, 0, 0);
    due.is("a greater one has come", x.ask(b, 12), 3);
    due.is("the first stays", x.ask(a, 12), 1);
    x.show(1, a);
    due.is("LIKENESS", x.says(1, 1), 4);
    Setup.row(x, 0, 0, 1, 2, 3);
    int c = x.write(4, 1, 2, 0, 0);
    due.is("all alike", x.ask(c, 12), 0);
    due.is("none", x.ask(Setup.ask(x, 4, 3, 0, 0), 12), -1);
  }

  private static void wordsAsTheyWere() {
    ComplaintBooks x = Setup.country();
    Setup.row(x, 0, 0, 1, 2, 3);
    x.model(1, 0, 4);
    x.write(4, 1, 0, 0, 0);
    x.set(0, 0, 9);
    due.is("both as they were", x.likeness(0, 0), 3);
    x.write(4, 1, 1, 0, 0);
    due.is("another ROW", x.likeness(1, 0), 2);
    x.row(0, 0, 0);
    due.is("both as they were", x.likeness(0, 0), 3);
  }

  private static void withdraw() {
    ComplaintBooks x = Setup.country();
    Setup.ask(x, 4, 0, 0, 7);
    Setup.ask(x, 5, 0, 0, 7);
    Setup.ask(x, 5, 1, 0, 7);
    due.is("withdraw", x.withdraw(0), 1);
    due.is("WITHDRAWN", x.ask(0, 7), 1);
    due.is("another one is not", x.ask(1, 7), 0);
    due.is("it was", x.withdraw(0), -6);
    due.is("no ASK", x.withdraw(3), -1);
    due.is("no ASK", x.withdraw(-1), -1);
    x.tear(5, 1);
    due.is("a GAP", x.withdraw(2), -6);
    due.is("no GAP", x.withdraw(1), 1);
    Setup.ask(x, 4, 0, 0, 8);
    due.is("make", x.make(2), 1);
    due.is("of a DISTRICT", x.withdraw(4), -6);
    due.is("went into one", x.withdraw(3), 1);
    due.is("that stays", x.ask(3, 9), 4);
    due.is("that stays", x.part(4, 0), 3);
    due.is("the WITHDRAWN ones went into none", x.ask(0, 9), -1);
  }

  private static void tear() {
    ComplaintBooks x = Setup.country();
    for (int i = 0; i < 4; i++) {
      Setup.ask(x, 4, i, 0, 7);
      Setup.ask(x, 5, i, 0, 7);
    }
    x.withdraw(4);
    due.is("tear", x.tear(4, 1), 3);
    due.is("ahead of it", x.ask(0, 8), 0);
    due.is("a GAP", x.ask(2, 8), 1);
    due.is("a GAP that was WITHDRAWN", x.ask(4, 8), 1);
    due.is("a GAP", x.ask(6, 8), 1);
    for (int i = 0; i < 4; i++) {
      due.is("another PARISH", x.ask(2 * i + 1, 8), 0);
    }
    due.is("from its end", x.tear(5, 4), 0);
    due.is("TORN from", x.about(5, 7), 4);
    due.is("a PARISH without ASKS", x.tear(6, 0), 0);
    due.is("GAPS aren't made of", x.make(2), 4);
    due.is("a GAP goes into none", x.ask(2, 9), -1);
    due.is("a PART", x.part(8, 0), 0);
    due.is("a PART", x.part(8, 1), 1);
    due.is("one PART alone", x.part(9, 1), -1);
  }

  private static void tearRefused() {
    ComplaintBooks x = Setup.country();
    Setup.ask(x, 4, 0, 0, 7);
    due.is("no PLACE", x.tear(8, 0), -1);
    due.is("no PLACE", x.tear(-1, 0), -1);
    due.is("a DISTRICT", x.tear(2, 0), -6);
    due.is("a SHIRE", x.tear(1, 0), -6);
    due.is("THE TOP", x.tear(0, 0), -6);
    due.is("i", x.tear(4, 2), -6);
    due.is("i", x.tear(4, -1), -6);
    due.is("it isn't TORN", x.about(4, 7), -1);
    due.is("tear", x.tear(4, 1), 0);
    due.is("it is TORN", x.tear(4, 0), -6);
    x.make(2);
    due.is("its DISTRICT's BOOK was MADE", x.tear(5, 0), -6);
    x.make(1);
    due.is("its SHIRE's alone was MADE", x.tear(6, 0), 0);
  }

  private static void ask() {
    ComplaintBooks x = Setup.country();
    Setup.row(x, 0, 0, 1, 2, 3);
    x.model(15, 0, 5);
    x.days(9);
    x.write(5, 15, 7, 99, 0);
    long[] written = {1, 5, 15, 7, 99, 9, 0, 0, 0, -1, -1, 30, 0, 0};
    for (int what = 0; what < 14; what++) {
      due.is("ask(0, " + what + ")", x.ask(0, what), written[what]);
    }
    x.days(1);
    Setup.ask(x, 4, 15, 7, 1);
    x.make(2);
    long[] merged = {2, 2, 15, 7, 99, 10, 0, 0, 0, -1, -1, 80, -1, 0};
    for (int what = 0; what < 14; what++) {
      due.is("ask(2, " + what + ")", x.ask(2, what), merged[what]);
    }
    due.is("it went into", x.ask(0, 9), 2);
    due.is("another what", x.ask(0, 14), -1);
    due.is("another what", x.ask(0, -1), -1);
    due.is("no ASK", x.ask(3, 0), -1);
    due.is("no ASK", x.ask(-1, 0), -1);
    due.is("no REFUSAL", Setup.refusals(x, -1), 0);
  }

  private static void late() {
    ComplaintBooks x = Setup.country();
    x.make(1);
    due.is("the SHIRE's alone was MADE", x.ask(Setup.ask(x, 4, 0, 0, 1), 6), 0);
    x.make(2);
    due.is("LATE", x.ask(Setup.ask(x, 4, 1, 0, 1), 6), 1);
    due.is("another DISTRICT", x.ask(Setup.ask(x, 6, 1, 0, 1), 6), 0);
    due.is("the first isn't", x.ask(0, 6), 0);
    due.is("LATE ones", x.status(9), 1);
    due.is("LATE went into none", x.ask(x.book(4, 1), 9), -1);
  }

  private static void likeness() {
    ComplaintBooks x = Setup.country();
    Setup.row(x, 0, 3, 1, 2, 3, -1, 1L << 40, 3);
    x.model(3, 0, 7);
    Setup.row(x, 1, 3, 9, 2, -1, 1, 1L << 40, 3, 3);
    x.write(4, 0, 0, 0, 1);
    due.is("LIKENESS, WHAT and PLACE aside", x.likeness(0, 0), 4);
    Setup.row(x, 1, 0, 2, -1, 3);
    x.write(4, 1, 0, 0, 1);
    due.is("of another SORT", x.likeness(1, 0), 3);
    Setup.row(x, 1, 0, 3, 3, 3);
    x.write(4, 2, 0, 0, 1);
    due.is("like ones", x.likeness(2, 0), 2);
    Setup.row(x, 1, 0, 7, 8);
    x.write(4, 3, 0, 0, 1);
    due.is("none alike", x.likeness(3, 0), 0);
    x.write(5, 0, 0, 0, 0);
    due.is("all alike", x.likeness(4, 0), 6);
    x.make(2);
    due.is("MERGED: no WORDS", x.likeness(5, 0), -1);
    due.is("no ASK", x.likeness(99, 0), -1);
    due.is("no ASK", x.likeness(-1, 0), -1);
    due.is("no MODEL", x.likeness(0, 1), -1);
    due.is("no MODEL", x.likeness(0, -1), -1);
  }

  private static void chance() {
    ComplaintBooks x = Setup.country();
    Setup.row(x, 0, 0, 1, 2, 3, 4);
    x.days(1);
    x.model(1, 0, 4);
    Setup.row(x, 1, 0, 1, 2, 3);
    due.is("the BORROWED one", x.ask(x.write(4, 1, 0, 0, 1), 0), 1);
    x.write(6, 1, 0, 0, 0);
    x.write(7, 1, 0, 0, 1);
    Setup.row(x, 2, 0, 1, 2, 9);
    x.write(5, 1, 0, 0, 2);
    x.write(6, 2, 0, 0, 0);
    due.is("how many", x.chance(0, false), 2);
    due.is("of how many", x.chance(0, true), 3);
    x.withdraw(1);
    x.tear(7, 0);
    due.is("WITHDRAWN ones and GAPS too", x.chance(0, false), 2);
    x.days(3);
    x.write(5, 1, 1, 0, 1);
    due.is("where it had come", x.chance(0, true), 3);
    x.write(6, 1, 1, 0, 1);
    due.is("where it hadn't", x.chance(0, true), 4);
    due.is("where it hadn't", x.chance(0, false), 3);
    x.make(2);
    x.make(3);
    due.is("MERGED ones aside", x.chance(0, true), 4);
    due.is("not BORROWED", x.chance(1, true), -1);
    due.is("no ASK", x.chance(999, true), -1);
    due.is("no ASK", x.chance(-1, false), -1);
  }

  private static void less() {
    ComplaintBooks x = Setup.country();
    Setup.ask(x, 4, 0, 0, 40);
    Setup.ask(x, 5, 0, 0, 60);
    due.is("into none yet", x.less(0), 1000);
    Setup.rule(x, 1, 0, "k:n>0;j:l");
    x.make(2);
    due.is("as much", x.less(0), 0);
    due.is("less", x.less(1), 20);
    due.is("the MERGED one", x.less(2), 1000);
    due.is("no ASK", x.less(3), 1000);
    due.is("no ASK", x.less(-1), 1000);
    ComplaintBooks y = Setup.country();
    Setup.ask(y, 4, 0, 0, 40);
    Setup.ask(y, 5, 0, 0, 60);
    y.make(2);
    due.is("more", y.less(0), -20);
  }

  private static void partEndLost() {
    ComplaintBooks x = Setup.country();
    Setup.ask(x, 4, 0, 0, 40);
    Setup.ask(x, 4, 1, 0, 60);
    Setup.ask(x, 4, 2, 0, 60);
    Setup.rule(x, 1, 0, "k:!w=1;j:x");
    Setup.rule(x, 3, 0, "k:w=0;j:x");
    x.make(2);
    x.make(1);
    x.make(0);
    due.is("ASKS", x.status(1), 8);
    due.is("end, at THE TOP", x.end(0), 7);
    due.is("end, itself", x.end(1), 1);
    due.is("end, dropped above", x.end(2), 6);
    due.is("end of one on the way", x.end(5), 7);
    due.is("end of the last", x.end(7), 7);
    due.is("no end", x.end(8), -1);
    due.is("no end", x.end(-1), -1);
    due.is("lost, it wasn't", x.lost(0), -1);
    due.is("lost, at the DISTRICT", x.lost(1), 2);
    due.is("lost, at THE TOP", x.lost(2), 0);
    due.is("lost, on the way", x.lost(4), 0);
    due.is("no ASK lost", x.lost(8), -1);
    due.is("no ASK lost", x.lost(-1), -1);
    due.is("DROPPED where", x.ask(1, 10), 2);
    due.is("DROPPED itself nowhere", x.ask(2, 10), -1);
    due.is("DROPPED where", x.ask(6, 10), 0);
    due.is("DROPPED", x.status(8), 2);
    due.is("PART", x.part(7, 0), 5);
    due.is("PART -1", x.part(7, -1), -1);
    due.is("PART 1", x.part(7, 1), -1);
    due.is("PART of a PARISH's", x.part(0, 0), -1);
    due.is("PART of none", x.part(8, 0), -1);
  }

  private static void partsByPlaces() {
    ComplaintBooks x = Setup.country();
    x.parish(2, 1, 1, 5);
    Setup.ask(x, 8, 3, 3, 9);
    Setup.ask(x, 5, 3, 3, 8);
    Setup.ask(x, 4, 3, 3, 7);
    x.make(2);
    due.is("PART 0", x.part(3, 0), 2);
    due.is("PART 1", x.part(3, 1), 1);
    due.is("PART 2", x.part(3, 2), 0);
    due.is("PART 3", x.part(3, 3), -1);
    due.is("HEARTHS behind", x.ask(3, 11), 85);
  }

  private static void book() {
    ComplaintBooks x = Setup.country();
    Setup.ask(x, 4, 5, 1, 1);
    Setup.ask(x, 5, 4, 7, 1);
    Setup.ask(x, 4, 5, 0, 1);
    Setup.ask(x, 4, 4, 2, 1);
    due.is("as WRITTEN", x.book(4, 0), 0);
    due.is("as WRITTEN", x.book(4, 1), 2);
    due.is("as WRITTEN", x.book(4, 2), 3);
    due.is("no more", x.book(4, 3), -1);
    due.is("-1", x.book(4, -1), -1);
    due.is("no PLACE", x.book(8, 0), -1);
    due.is("no PLACE", x.book(-1, 0), -1);
    due.is("not MADE", x.book(2, 0), -1);
    due.is("make", x.make(2), 4);
    int[] codes = {34, 39, 40, 41};
    for (int i = 0; i < 4; i++) {
      int ask = x.book(2, i);
      due.is("by WHAT, then WHOM: number", ask, 4 + i);
      due.is("by WHAT, then WHOM", 8 * x.ask(ask, 2) + x.ask(ask, 3), codes[i]);
    }
    due.is("no more", x.book(2, 4), -1);
    x.withdraw(2);
    due.is("a WITHDRAWN one stays in it", x.book(4, 1), 2);
  }
}

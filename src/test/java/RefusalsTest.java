import java.util.function.IntSupplier;

/** Every REFUSAL that the promises name: its number, that it is counted, and that no other one is. */
public final class RefusalsTest {
  private static final Due due = new Due("RefusalsTest");

  public static void main(String[] args) {
    places();
    shelves();
    asks();
    rules();
    deputies();
    clashes();
    noRoom();
    due.close();
  }

  private static void refused(ComplaintBooks x, String call, int refusal, IntSupplier asking) {
    int[] ahead = new int[7];
    for (int i = 0; i < 7; i++) {
      ahead[i] = x.status(11 + i);
    }
    due.is(call, asking.getAsInt(), refusal);
    for (int i = 0; i < 7; i++) {
      int more = i == -1 - refusal ? 1 : 0;
      due.is("REFUSALS " + (-1 - i) + " after " + call, x.status(11 + i), ahead[i] + more);
    }
  }

  /** SHELF 0 holds 3 bytes, 1 an ASK, 2 NOTHING, 3 21 bytes, 4 3 shorts; a PARISH 4 with ASK 0. */
  private static ComplaintBooks shelved() {
    ComplaintBooks x = Setup.country();
    Setup.ask(x, 4, 1, 1, 1);
    x.row(0, 0, 3);
    x.show(1, 0);
    x.row(3, 0, 21);
    x.row(4, 1, 3);
    return x;
  }

  private static void places() {
    ComplaintBooks x = Setup.country();
    refused(x, "place, none", -1, () -> x.place(8, 1));
    refused(x, "place, DAYS", -6, () -> x.place(0, 100));
    refused(x, "parish, none", -1, () -> x.parish(8, 1, 1, 1));
    refused(x, "parish, ORDER", -6, () -> x.parish(2, 1, 3, 1));
    refused(x, "days", -6, () -> x.days(0));
    refused(x, "vote, none", -1, () -> x.vote(8, 1, 1));
    refused(x, "vote, n", -6, () -> x.vote(0, 1, 100));
  }

  private static void shelves() {
    ComplaintBooks x = shelved();
    refused(x, "row, none", -1, () -> x.row(8, 0, 1));
    refused(x, "row, n", -4, () -> x.row(0, 0, -1));
    refused(x, "row, SORT", -6, () -> x.row(0, 4, 1));
    refused(x, "row, n", -7, () -> x.row(0, 0, 61));
    refused(x, "set, none", -1, () -> x.set(8, 0, 1));
    refused(x, "set, an ASK", -2, () -> x.set(1, 0, 1));
    refused(x, "set, NOTHING", -3, () -> x.set(2, 0, 1));
    refused(x, "set, i", -5, () -> x.set(0, 3, 1));
    refused(x, "copy, none", -1, () -> x.copy(0, 8, 0, 0, 1));
    refused(x, "copy, an ASK", -2, () -> x.copy(0, 1, 0, 0, 1));
    refused(x, "copy, two SORTS", -2, () -> x.copy(0, 4, 0, 0, 1));
    refused(x, "copy, NOTHING", -3, () -> x.copy(0, 2, 0, 0, 1));
    refused(x, "copy, n", -4, () -> x.copy(0, 0, 0, 0, -1));
    refused(x, "copy, i", -5, () -> x.copy(0, 0, 4, 0, 0));
    refused(x, "show, none", -1, () -> x.show(0, 1));
    refused(x, "says, none", -1, () -> x.says(1, 4));
    refused(x, "says, a ROW", -2, () -> x.says(0, 0));
    refused(x, "says, no such KIND", -2, () -> x.says(1, 1));
    refused(x, "says, NOTHING", -3, () -> x.says(2, 0));
  }

  private static void asks() {
    ComplaintBooks x = shelved();
    refused(x, "model, none", -1, () -> x.model(1, 8, 0));
    refused(x, "model, an ASK", -2, () -> x.model(1, 1, 0));
    refused(x, "model, NOTHING", -3, () -> x.model(1, 2, 0));
    refused(x, "model, WORDS", -6, () -> x.model(1, 3, 0));
    refused(x, "write, none", -1, () -> x.write(8, 1, 1, 1, 0));
    refused(x, "write, an ASK", -2, () -> x.write(4, 1, 1, 1, 1));
    refused(x, "write, NOTHING", -3, () -> x.write(4, 1, 1, 1, 2));
    refused(x, "write, it has one", -6, () -> x.write(4, 1, 1, 1, 0));
    refused(x, "withdraw, none", -1, () -> x.withdraw(1));
    x.withdraw(0);
    refused(x, "withdraw, it is", -6, () -> x.withdraw(0));
    refused(x, "tear, none", -1, () -> x.tear(8, 0));
    refused(x, "tear, i", -6, () -> x.tear(4, 2));
  }

  private static void rules() {
    ComplaintBooks x = shelved();
    refused(x, "rule, none", -1, () -> x.rule(0, 0, 0));
    refused(x, "rule, an ASK", -2, () -> x.rule(1, 0, 1));
    refused(x, "rule, NOTHING", -3, () -> x.rule(1, 0, 2));
    refused(x, "rule, DAY", -6, () -> x.rule(1, -1, 0));
    refused(x, "rule, FAULT", -6, () -> x.rule(1, 0, 0));
    refused(x, "strike, none", -1, () -> x.strike(0));
    Setup.rule(x, 1, 0, "k:n<1;j:x");
    x.strike(0);
    refused(x, "strike, it was", -6, () -> x.strike(0));
    refused(x, "make, none", -1, () -> x.make(8));
    refused(x, "make, a PARISH", -6, () -> x.make(4));
  }

  private static void deputies() {
    ComplaintBooks x = shelved();
    refused(x, "person, none", -1, () -> x.person(8, 1));
    refused(x, "person, BORN", -6, () -> x.person(4, -1));
    x.person(4, 1);
    x.row(5, 0, 0);
    refused(x, "choose, none", -1, () -> x.choose(8, 0));
    refused(x, "choose, an ASK", -2, () -> x.choose(4, 1));
    refused(x, "choose, NOTHING", -3, () -> x.choose(4, 2));
    refused(x, "choose, fewer elements", -5, () -> x.choose(4, 5));
    refused(x, "choose, no CANDIDATE", -6, () -> x.choose(5, 0));
    refused(x, "unchoose, none", -1, () -> x.unchoose(8));
    refused(x, "unchoose, there is none", -6, () -> x.unchoose(4));
    refused(x, "bind, none", -1, () -> x.bind(1));
    refused(x, "bind, KIND", -6, () -> x.bind(0));
    refused(x, "unbind, none", -1, () -> x.unbind(1));
    refused(x, "unbind, KIND", -6, () -> x.unbind(0));
    refused(x, "give, none", -1, () -> x.give(1));
    refused(x, "give, KIND", -6, () -> x.give(0));
  }

  private static void clashes() {
    ComplaintBooks x = shelved();
    refused(x, "clash", -6, () -> x.clash(16, 0, true));
    refused(x, "leave, none", -1, () -> x.leave(8));
    refused(x, "judge, none", -1, () -> x.judge(8, 0));
    refused(x, "judge, an ASK", -2, () -> x.judge(4, 1));
    refused(x, "judge, NOTHING", -3, () -> x.judge(4, 2));
    refused(x, "judge, an i of none", -6, () -> x.judge(5, 0));
    refused(x, "best, none", -1, () -> x.best(8, 0));
    refused(x, "best, SPACE", -6, () -> x.best(0, 13));
    x.row(0, 0, 1);
    for (int i = 0; i < 13; i++) {
      x.write(5, i, 0, 1, 0);
    }
    refused(x, "leave, thirteen", -7, () -> x.leave(5));
    refused(x, "judge, thirteen", -7, () -> x.judge(5, 0));
    refused(x, "best, more groups", -7, () -> x.best(2, 1));
  }

  private static void noRoom() {
    ComplaintBooks x = Setup.country();
    x.row(0, 0, 1);
    for (int i = 0; i < 16; i++) {
      x.parish(3, 1, 0, 1);
    }
    refused(x, "place", -7, () -> x.place(0, 1));
    refused(x, "parish", -7, () -> x.parish(2, 1, 1, 1));
    for (int i = 0; i < 8; i++) {
      x.model(i, 0, 0);
    }
    refused(x, "model", -7, () -> x.model(0, 0, 0));
    due.is("no 9th MODEL", x.reaches(8, 0), -1);
    Setup.text(x, 1, "k:n<1;j:x");
    for (int i = 0; i < 12; i++) {
      x.rule(3, 0, 1);
    }
    refused(x, "rule", -7, () -> x.rule(1, 0, 1));
    for (int i = 0; i < 20; i++) {
      x.person(4, 0);
    }
    refused(x, "person", -7, () -> x.person(4, 0));
    x.row(2, 0, 60);
    due.is("no 61st element", x.element(2, 60), 0);
    noRoomForAsks();
  }

  private static void noRoomForAsks() {
    ComplaintBooks x = Setup.country();
    x.row(0, 0, 1);
    for (int i = 0; i < 128; i++) {
      x.write(4, i / 8, i % 8, 1, 0);
    }
    for (int i = 0; i < 31; i++) {
      x.write(6, 0, i % 8, 1, 0);
      x.withdraw(128 + i);
    }
    due.is("ASKS", x.status(1), 159);
    x.write(7, 0, 0, 1, 0);
    refused(x, "write", -7, () -> x.write(7, 1, 0, 1, 0));
    refused(x, "make", -7, () -> x.make(3));
    due.is("not MADE", x.about(3, 5), 0);
    due.is("nor went anywhere", x.ask(159, 9), -1);
    due.is("no 161st", x.ask(160, 0), -1);
    due.is("no 161st", x.show(1, 160), -1);
    justRoomForAsks();
  }

  /** 158 ASKS, two of which stand in DISTRICT 3 and three in 2: two more may be, three may not. */
  private static void justRoomForAsks() {
    ComplaintBooks x = Setup.country();
    x.row(0, 0, 1);
    for (int i = 0; i < 153; i++) {
      x.write(6, 0, 0, 1, 0);
      x.withdraw(i);
    }
    for (int i = 0; i < 3; i++) {
      x.write(4, i, 0, 1, 0);
    }
    x.write(6, 0, 1, 1, 0);
    x.write(7, 0, 2, 1, 0);
    due.is("ASKS", x.status(1), 158);
    refused(x, "make of three", -7, () -> x.make(2));
    due.is("make of two", x.make(3), 2);
    due.is("ASKS", x.status(1), 160);
    refused(x, "make of three", -7, () -> x.make(2));
    Setup.rule(x, 1, 0, "k:n>9;j:x");
    due.is("make of none", x.make(2), 0);
    due.is("DROPPED", x.status(8), 3);
  }
}

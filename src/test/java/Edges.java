import java.util.List;
import java.util.function.Supplier;

/** Tests of edges: each is for one sentence of the document, and tells which. */
abstract class Edges {
  private final Sentences document;
  private String section = "";
  private String sentence = "";
  private int answers;
  private int wrong;

  Edges(Sentences document) {
    this.document = document;
  }

  abstract void run();

  final int answers() {
    return answers;
  }

  final int wrong() {
    return wrong;
  }

  final void terms(int n) {
    section = "Terms " + n;
  }

  final void promise(int n) {
    section = "Promise " + n;
  }

  final void section(String name) {
    section = name;
  }

  /** The test of a sentence: the document has to say it, and the test has to ask for something. */
  final void edge(String words, Runnable test) {
    sentence = words;
    if (!document.take(section, words)) {
      fail("the document does not say this");
    }
    int ahead = answers;
    try {
      test.run();
    } catch (RuntimeException e) {
      fail("ended with " + e);
    }
    if (answers == ahead) {
      fail("nothing was asked for");
    }
  }

  final void is(String call, long got, long want) {
    answers++;
    if (got != want) {
      fail(call + " answered " + got + ", due is " + want);
    }
  }

  /** The call is refused with that number, and nothing changes but how many of it there were. */
  final void refused(String call, int refusal, Supplier<Books> start, Looks.Call asking) {
    is(call, asking.on(start.get()), refusal);
    changesNothing(call, refusal, start, asking);
  }

  /** The call answers that, is no REFUSAL, and changes nothing. */
  final void onlyTells(String call, long answer, Supplier<Books> start, Looks.Call asking) {
    is(call, asking.on(start.get()), answer);
    changesNothing(call, 0, start, asking);
  }

  private void changesNothing(String call, int refusal, Supplier<Books> start, Looks.Call asking) {
    Books ahead = start.get();
    Books after = start.get();
    asking.on(after);
    for (int r = -1; r >= -7; r--) {
      int more = r == refusal ? 1 : 0;
      is("REFUSALS " + r + " after: " + call, after.status(10 - r), ahead.status(10 - r) + more);
    }
    List<Looks.Look> looks = Looks.at(start.get());
    for (int next = 0; next < looks.size();) {
      ahead = start.get();
      after = start.get();
      asking.on(after);
      for (; next < looks.size() && after.callsLeft() > 0; next++) {
        Looks.Look look = looks.get(next);
        is(look.name() + " after: " + call, look.call().on(after), look.call().on(ahead));
      }
    }
  }

  private void fail(String what) {
    wrong++;
    System.out.println(section + ", \"" + sentence + "\": " + what);
  }
}

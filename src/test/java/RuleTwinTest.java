import java.util.HashMap;
import java.util.Map;
import java.util.Random;

/** Texts of RULES by lot, right ones and spoilt ones: FAULTS and what is kept as by PlainRule. */
public final class RuleTwinTest {
  private static final Due due = new Due("RuleTwinTest");
  private static final String LETTERS = "k:;jxlcnbhtmwdy0123456789*<>=!()&|aZ ~";
  private static final Random random = new Random(7);

  public static void main(String[] args) {
    for (int i = 0; i < 60000; i++) {
      String text = text();
      readRight(text);
      readSpoilt(text);
    }
    for (int i = 0; i < 6000; i++) {
      reckon(text());
    }
    due.close();
  }

  private static int upTo(int n) {
    return random.nextInt(n + 1);
  }

  private static char of(String letters) {
    return letters.charAt(upTo(letters.length() - 1));
  }

  private static String text() {
    String text = "k:" + any(0) + ";j:" + of("xlc");
    while (text.length() > 60) {
      text = "k:" + any(0) + ";j:" + of("xlc");
    }
    return text;
  }

  private static String any(int depth) {
    StringBuilder s = new StringBuilder(one(depth));
    for (int i = upTo(depth == 0 ? 3 : 1); i > 0; i--) {
      s.append(of("&|")).append(one(depth));
    }
    return s.toString();
  }

  private static String one(int depth) {
    return switch (upTo(depth > 4 ? 1 : 4)) {
      case 3 -> "!" + one(depth + 1);
      case 4 -> "(" + any(depth + 1) + ")";
      default -> side() + of("<>=") + side();
    };
  }

  private static String side() {
    int number = switch (upTo(3)) {
      case 0 -> upTo(9999);
      case 1 -> upTo(90);
      default -> upTo(4);
    };
    return switch (upTo(2)) {
      case 0 -> "" + number;
      case 1 -> number + "*" + of("nbhtmwdy");
      default -> "" + of("nbhtmwdy");
    };
  }

  private static void readRight(String text) {
    due.is("rule " + text, Setup.rule(new ComplaintBooks(), 1, 0, text), 0);
    due.is("PlainRule of " + text, PlainRule.faultOf(text.chars().toArray()), -1);
  }

  private static void readSpoilt(String text) {
    StringBuilder s = new StringBuilder(text);
    int at = upTo(s.length() - 1);
    switch (upTo(4)) {
      case 0 -> s.deleteCharAt(at);
      case 1 -> s.insert(at, of(LETTERS));
      case 2 -> s.setLength(at);
      case 3 -> s.insert(at, s.charAt(at));
      default -> s.setCharAt(at, of(LETTERS));
    }
    if (s.length() > 60) {
      s.setLength(60);
    }
    int fault = PlainRule.faultOf(s.chars().toArray());
    ComplaintBooks x = new ComplaintBooks();
    due.is("rule " + s, Setup.rule(x, 1, 0, s.toString()), fault < 0 ? 0 : -6);
    due.is("FAULT of " + s, x.fault(), fault);
  }

  private static void reckon(String text) {
    ComplaintBooks x = new ComplaintBooks();
    x.place(0, 1);
    x.place(1, 1);
    int parishes = 1 + upTo(3);
    int asking = 1 + upTo(parishes - 1);
    int what = upTo(5);
    Map<Character, Integer> fields = new HashMap<>();
    for (int i = 0; i < parishes; i++) {
      int hearths = 1 + upTo(5);
      x.parish(2, 1, 0, hearths);
      fields.merge('t', hearths, Integer::sum);
      if (i < asking) {
        int much = upTo(5);
        Setup.ask(x, 3 + i, what, 0, much);
        fields.merge('h', hearths, Integer::sum);
        fields.merge('m', much, Math::max);
      }
    }
    int yes = upTo(5);
    int today = 1 + upTo(4);
    x.vote(2, what, yes);
    x.days(today);
    fields.put('n', asking);
    fields.put('b', parishes);
    fields.put('w', what);
    fields.put('d', today);
    fields.put('y', yes);
    Setup.rule(x, 1, 0, text);
    due.is("make by " + text + " of " + fields, x.make(2), PlainRule.keeps(text, fields) ? 1 : 0);
  }
}

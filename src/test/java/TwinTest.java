import java.lang.reflect.Method;
import java.lang.reflect.Modifier;
import java.util.ArrayList;
import java.util.HashMap;
import java.util.List;
import java.util.Map;
import java.util.Random;

/** Long runs of calls by lot: the program and PlainBooks have to answer the same. */
public final class TwinTest {
  private static final int RUNS = Integer.getInteger("runs", 1500);
  private static final int CALLS = 512;
  private static final int[] EDGES = {
    Integer.MIN_VALUE, Integer.MIN_VALUE + 1, -1000, -2, -1, 0, 1, 2, 3, 4, 7, 8, 12, 13, 16, 20,
    21, 24, 60, 61, 99, 100, 160, 1000, 4000, 4001, Integer.MAX_VALUE - 1, Integer.MAX_VALUE,
  };
  private static final String[] TEXTS = {
    "k:n>1;j:l", "k:2*n>b;j:c", "k:w<2|y>3;j:x", "k:!m<5;j:c", "k:3*h>t;j:l", "k:d>9&n>0;j:c",
    "k:!(w=1);j:x", "k:y=w;j:l", "k:n<1;x", "k:01<n;j:x", "k:n<1;j:", "k:(n<1;j:x",
  };

  private static final Map<String, Method> REAL = new HashMap<>();
  private static final Map<String, Method> PLAIN = new HashMap<>();
  private static final List<String> NAMES = new ArrayList<>();

  private final Random random;
  private final ComplaintBooks x = new ComplaintBooks();
  private final PlainBooks y = new PlainBooks();
  private final StringBuilder told = new StringBuilder();
  private int calls;
  private boolean wrong;

  private TwinTest(long seed) {
    random = new Random(seed);
  }

  public static void main(String[] args) throws Exception {
    for (Method m : ComplaintBooks.class.getDeclaredMethods()) {
      if (Modifier.isPublic(m.getModifiers())) {
        REAL.put(m.getName(), m);
        PLAIN.put(m.getName(), PlainBooks.class.getDeclaredMethod(m.getName(), m.getParameterTypes()));
        NAMES.add(m.getName());
      }
    }
    NAMES.sort(null);
    long first = Long.getLong("seed", 1);
    int wrong = 0;
    for (long seed = first; seed < first + RUNS && wrong < 3; seed++) {
      TwinTest run = new TwinTest(seed);
      run.go(seed % 10 == 0);
      if (run.wrong) {
        wrong++;
        System.out.println("TwinTest, seed " + seed + ":\n" + run.told);
      }
    }
    System.out.println("TwinTest: " + RUNS + " runs, " + wrong + " wrong");
    if (wrong != 0) {
      System.exit(1);
    }
  }

  private void go(boolean wild) throws Exception {
    if (!wild || random.nextBoolean()) {
      settle();
    }
    while (!wrong && calls < CALLS) {
      if (wild && random.nextInt(3) > 0) {
        callWildly();
      } else {
        callSensibly();
      }
    }
  }

  private long call(String name, Object... args) throws Exception {
    if (calls >= CALLS || wrong) {
      return 0;
    }
    calls++;
    long real = ((Number) REAL.get(name).invoke(x, args)).longValue();
    long plain = ((Number) PLAIN.get(name).invoke(y, args)).longValue();
    told.append(name).append(List.of(args)).append(" = ").append(real).append('\n');
    if (real != plain) {
      told.append("  due is ").append(plain).append('\n');
      wrong = true;
    }
    return real;
  }

  private int upTo(int n) {
    return random.nextInt(n + 1);
  }

  private void settle() throws Exception {
    int shires = 1 + upTo(1);
    for (int i = 0; i < shires; i++) {
      call("place", 0, upTo(5));
    }
    int districts = 1 + upTo(3);
    for (int i = 0; i < districts; i++) {
      call("place", 1 + upTo(shires - 1), upTo(5));
    }
    int parishes = 2 + upTo(7);
    for (int i = 0; i < parishes; i++) {
      call("parish", 1 + shires + upTo(districts - 1), upTo(5), upTo(2), 1 + upTo(60));
    }
  }

  private int somePlace() {
    return upTo(y.places.size() - 1);
  }

  private int someParish() {
    int place = somePlace();
    for (int i = 0; i < 5 && y.places.get(place).level != 0; i++) {
      place = somePlace();
    }
    return place;
  }

  private int someMaker() {
    int place = somePlace();
    for (int i = 0; i < 5 && (y.places.get(place).level == 0 || y.places.get(place).made); i++) {
      place = somePlace();
    }
    return place;
  }

  private int someAsk() {
    return upTo(y.asks.size());
  }

  private int someWhat() {
    return random.nextInt(12) == 0 ? upTo(15) : upTo(3);
  }

  private void words(int s) throws Exception {
    int n = upTo(6);
    call("row", s, upTo(3), n);
    for (int i = 0; i < n; i++) {
      call("set", s, i, (long) upTo(3));
    }
  }

  private void numbers(int s, int n, int most) throws Exception {
    call("row", s, upTo(3), n);
    for (int i = 0; i < n; i++) {
      call("set", s, i, (long) upTo(most));
    }
  }

  private void callSensibly() throws Exception {
    switch (upTo(30)) {
      case 0 -> words(upTo(2));
      case 1, 2, 3, 4, 5, 6 -> {
        call("write", someParish(), someWhat(), upTo(1), upTo(99), upTo(2));
      }
      case 7 -> call("model", someWhat(), upTo(2), somePlace());
      case 8 -> call("days", 1 + upTo(4));
      case 9 -> call("withdraw", someAsk());
      case 10 -> {
        if (random.nextInt(4) == 0) {
          call("tear", someParish(), upTo(3));
        }
      }
      case 11 -> rule();
      case 12 -> call("strike", upTo(3));
      case 13 -> call("vote", somePlace(), someWhat(), upTo(9));
      case 14, 15 -> {
        if (random.nextInt(4) == 0) {
          call("make", someMaker());
        }
      }
      case 16 -> call("person", someParish(), upTo(9));
      case 17 -> {
        numbers(3, upTo(4), Math.max(y.persons.size() - 1, 0));
        call("choose", somePlace(), 3);
      }
      case 18 -> call("unchoose", somePlace());
      case 19 -> call("bind", someAsk());
      case 20 -> call("unbind", someAsk());
      case 21 -> call("give", someAsk());
      case 22 -> call("clash", someWhat(), someWhat(), random.nextInt(3) > 0);
      case 23 -> call("leave", somePlace());
      case 24 -> {
        numbers(4, upTo(3), 4);
        call("judge", somePlace(), 4);
      }
      case 25 -> {
        call("best", someMaker(), upTo(6));
        for (int i = 0; i < 4; i++) {
          call("bestOf", i);
        }
      }
      case 26 -> {
        call("show", 5, someAsk() - 1);
        call("says", 5, upTo(3));
      }
      default -> look();
    }
  }

  private void rule() throws Exception {
    String text = TEXTS[upTo(TEXTS.length - 1)];
    call("row", 6, upTo(3), text.length());
    for (int i = 0; i < text.length(); i++) {
      call("set", 6, i, (long) text.charAt(i));
    }
    call("rule", 1 + upTo(2), upTo(12), 6);
    call("fault");
  }

  private void look() throws Exception {
    switch (upTo(14)) {
      case 0 -> call("about", somePlace(), upTo(8));
      case 1, 2 -> call("ask", someAsk(), upTo(14));
      case 3 -> call("path", somePlace(), somePlace());
      case 4 -> call("reaches", upTo(3), somePlace());
      case 5 -> call("likeness", someAsk(), upTo(3));
      case 6 -> call("chance", someAsk(), random.nextBoolean());
      case 7 -> call("less", someAsk());
      case 8 -> call("part", someAsk(), upTo(3));
      case 9 -> {
        int ask = someAsk();
        call("end", ask);
        call("lost", ask);
      }
      case 10 -> call("book", somePlace(), upTo(4));
      case 11 -> call("force", upTo(4), upTo(12));
      case 12 -> call("count", someWhat(), upTo(1), upTo(3), random.nextBoolean());
      case 13 -> call("asked", someWhat(), upTo(1), upTo(30), somePlace(), upTo(40));
      default -> {
        call("said", somePlace());
        call("other", upTo(2), upTo(3));
        call("status", upTo(17));
      }
    }
  }

  private void callWildly() throws Exception {
    String name = NAMES.get(upTo(NAMES.size() - 1));
    Class<?>[] types = REAL.get(name).getParameterTypes();
    Object[] args = new Object[types.length];
    for (int i = 0; i < types.length; i++) {
      int edge = random.nextInt(3) == 0 ? EDGES[upTo(EDGES.length - 1)] : upTo(6);
      if (types[i] == boolean.class) {
        args[i] = random.nextBoolean();
      } else if (types[i] == long.class) {
        args[i] = random.nextLong() >> upTo(63);
      } else {
        args[i] = edge;
      }
    }
    call(name, args);
  }
}

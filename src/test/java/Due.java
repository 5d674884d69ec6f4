/** Counts the answers that are not the ones due, and tells each of them. */
final class Due {
  private final String test;
  private int asked;
  private int wrong;

  Due(String test) {
    this.test = test;
  }

  void is(String call, long got, long want) {
    asked++;
    if (got != want) {
      wrong++;
      System.out.println(test + ": " + call + " answered " + got + ", due is " + want);
    }
  }

  /** Ends the program: with 1 if an answer was wrong, or if none was asked for. */
  void close() {
    System.out.println(test + ": " + asked + " answers, " + wrong + " wrong");
    if (wrong != 0 || asked == 0) {
      System.exit(1);
    }
  }
}

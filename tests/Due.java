/** Counts answers that are not as due, and says which. */
final class Due {
  private static int wrong = 0;
  private static int asked = 0;

  private Due() { }

  static void is(String call, long got, long want) {
    asked++;
    if (got != want) {
      wrong++;
      System.out.println(call + " answered " + got + ", due is " + want);
    }
  }

  static void is(String call, boolean got, boolean want) {
    is(call, got ? 1 : 0, want ? 1 : 0);
  }

  static int wrong() {
    return wrong;
  }

  static void end() {
    System.out.println(asked + " answers, " + wrong + " not as due");
    if (wrong != 0) System.exit(1);
  }
}

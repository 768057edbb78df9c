/** Counts and prints the answers that are not the ones that are due. */
final class Checks {
  private int made = 0;
  private int wrong = 0;

  void due(String call, long got, long want) {
    made++;
    if (got != want) {
      wrong++;
      System.out.println(call + " answered " + got + ", due is " + want);
    }
  }

  void due(String call, boolean got, boolean want) {
    due(call, got ? 1L : 0L, want ? 1L : 0L);
  }

  void due(String call, String got, String want) {
    made++;
    if (!got.equals(want)) {
      wrong++;
      System.out.println(call + " answered " + got + ", due is " + want);
    }
  }

  /** So that a run that goes wrong stops at its first wrong answer. */
  boolean allRight() {
    return wrong == 0;
  }

  void end() {
    System.out.println(made + " answers looked at, " + wrong + " not as due");
    if (wrong != 0) {
      System.exit(1);
    }
  }
}

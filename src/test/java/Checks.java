/** Counts and prints the answers that are not the ones that are due. */
final class Checks {
  private String sentence = "";
  private int made = 0;
  private int wrong = 0;

  /** The sentence of the document that the answers from here on are due by. */
  void by(String newSentence) {
    sentence = "\"" + newSentence + "\": ";
  }

  void due(String call, long got, long want) {
    due(call, Long.toString(got), Long.toString(want));
  }

  void due(String call, boolean got, boolean want) {
    due(call, got ? 1L : 0L, want ? 1L : 0L);
  }

  void due(String call, String got, String want) {
    made++;
    if (!got.equals(want)) {
      wrong++;
      System.out.println(sentence + call + " answered " + got + ", due is " + want);
    }
  }

  /** So that a run that goes wrong stops at its first wrong answer. */
  boolean allRight() {
    return wrong == 0;
  }

  void end() {
    System.out.println(made + " answers looked at, " + wrong + " not as due");
    if (wrong != 0) {
      System.exit(1);
    }
  }
}

/** Counts answers that are not as due, and tells under which sentence of the document they were asked. */
final class Check {
  private static String sentence = "";
  private static int sentences = 0;
  private static int wrong = 0;

  private Check() {}

  /** What follows tests this sentence, quoted from the document. */
  static void says(String quoted) {
    sentence = quoted;
    sentences++;
  }

  static void due(String call, long got, long want) {
    if (got == want) return;
    wrong++;
    if (wrong <= 60) System.out.println("\"" + sentence + "\": " + call + " answered " + got + ", due is " + want);
  }

  /** To be called last: ends with exit code 1 if an answer was not as due. */
  static void end() {
    System.out.println(sentences + " sentences, " + wrong + " answers not as due");
    if (wrong != 0) System.exit(1);
  }
}

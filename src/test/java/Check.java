/** What the tests share: feeding a text, and telling what was not as due. */
final class Check {
  private int wrong = 0;
  private int asked = 0;

  /** Feeds a text, 24 signs a call, and answers what the last call did (the TAPE's length if there was none). */
  static int feed(EmberLand x, String text) {
    int answer = x.count(11);
    for (int i = 0; i < text.length(); i += 24) {
      answer = x.feed(eight(text, i), eight(text, i + 8), eight(text, i + 16));
    }
    return answer;
  }

  /** Eight signs of a text as a long, the first one highest; behind its end nothing (0). */
  static long eight(String text, int from) {
    long bytes = 0;
    for (int i = from; i < from + 8; i++) {
      bytes = bytes << 8 | (i < text.length() ? text.charAt(i) : 0);
    }
    return bytes;
  }

  static int grate(EmberLand x, String text) {
    feed(x, text);
    return x.grate();
  }

  static int evening(EmberLand x, String text) {
    feed(x, text);
    return x.evening();
  }

  /** A new object with this GRATE. */
  EmberLand land(String text) {
    EmberLand x = new EmberLand();
    due("grate of " + text, grate(x, text), 0);
    return x;
  }

  void due(String call, long got, long want) {
    asked++;
    if (got != want) {
      wrong++;
      System.out.println(call + " answered " + got + ", due is " + want);
    }
  }

  void due(String call, boolean got, boolean want) {
    due(call, got ? 1 : 0, want ? 1 : 0);
  }

  boolean allGood() {
    return wrong == 0;
  }

  void end() {
    System.out.println(asked + " answers, " + wrong + " not as due");
    if (wrong != 0) {
      System.exit(1);
    }
  }
}

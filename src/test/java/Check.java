/** What the tests share: feeding a text, and telling what was not as due. */
final class Check {
  /** Far from all that an EMBER, a CELL, a choice or a time can be. */
  static final int[] FAR = {Integer.MIN_VALUE, Integer.MIN_VALUE + 1, -65536, -1000, -32, -2, 100, 256, 1000, 65536,
    Integer.MAX_VALUE - 1, Integer.MAX_VALUE};

  private int wrong = 0;
  private int asked = 0;
  private int sentences = 0;
  private int askedBefore = 0;
  private String sentence = "";

  /** Feeds a text, 24 signs a call, and answers what the last call did (the TAPE's length if there was none). */
  static int feed(EmberLand x, String text) {
    int answer = x.count(11);
    for (int i = 0; i < text.length(); i += 24) {
      answer = x.feed(eight(text, i), eight(text, i + 8), eight(text, i + 16));
    }
    return answer;
  }

  /** Eight signs of a text as a long, the first one highest; behind its end nothing (0). */
  static long eight(String text, int from) {
    long bytes = 0;
    for (int i = from; i < from + 8; i++) {
      bytes = bytes << 8 | (i < text.length() ? text.charAt(i) : 0);
    }
    return bytes;
  }

  static int grate(EmberLand x, String text) {
    feed(x, text);
    return x.grate();
  }

  static int evening(EmberLand x, String text) {
    feed(x, text);
    return x.evening();
  }

  static String ember(String name, String kind, int cell, int heat, int fuel) {
    return "ember " + name + " " + kind + " at " + cell + " heat " + heat + " fuel " + fuel + " ; ";
  }

  /** All that can be seen without asking what is to come, in 59 calls. */
  static String state(EmberLand x) {
    StringBuilder s = new StringBuilder();
    for (int e = 0; e < 7; e++) {
      for (int w = 0; w < 5; w++) {
        s.append(x.ember(e, w)).append(' ');
      }
    }
    for (int c = 0; c < 12; c++) {
      s.append(x.cell(c)).append(' ');
    }
    for (int w = 0; w < 12; w++) {
      s.append(x.count(w)).append(' ');
    }
    return s.toString();
  }

  /** A new object with this GRATE. */
  EmberLand land(String text) {
    EmberLand x = new EmberLand();
    due("grate of " + text, grate(x, text), 0);
    return x;
  }

  /** From here on it is asked whether this sentence of the document holds. */
  void of(String quoted) {
    endSentence();
    sentence = quoted;
    sentences++;
  }

  private void endSentence() {
    if (!sentence.isEmpty() && asked == askedBefore) {
      wrong++;
      System.out.println("[" + sentence + "] nothing is asked");
    }
    askedBefore = asked;
  }

  void due(String call, long got, long want) {
    asked++;
    if (got != want) {
      wrong++;
      System.out.println((sentence.isEmpty() ? "" : "[" + sentence + "] ") + call + " answered " + got + ", due is " + want);
    }
  }

  void due(String call, boolean got, boolean want) {
    due(call, got ? 1 : 0, want ? 1 : 0);
  }

  void due(String call, String got, String want) {
    due(call + " (1: " + want + ", not " + got + ")", got.equals(want) ? 1 : 0, 1);
  }

  void end() {
    endSentence();
    System.out.println((sentences > 0 ? sentences + " sentences, " : "") + asked + " answers, " + wrong + " not as due");
    if (wrong != 0) {
      System.exit(1);
    }
  }
}

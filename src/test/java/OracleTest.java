import java.util.NoSuchElementException;
import java.util.Random;

/** Random runs of calls (always the same ones), EmberLand against the Oracle. */
public final class OracleTest {
  private static final String[] NAMES = {"ada", "bel", "col", "dog", "eva", "fay", "glow", "z", "abcdefgh", "left"};
  private static final String[] KINDS = {"coal", "coal", "stick", "slack", "iron"};
  private static final String[] BITS = {"ember", "at", "heat", "fuel", "draught", "catches", "warms", "hour", "poke",
    "tongs", "feed", "bank", "coal", "stick", "slack", "iron", "not", "and", "or", "glow", "near", "air", "left",
    "0", "1", "9", "11", "12", "20", "21", "0007", "12345", "abcdefghi", "x", "ada", "(", ")", "<", "=", "+", "-",
    "*", ";", ";", ";", "@", "A", "1x", "x1", "\n", " "};
  private static final int RUNS = 1200;

  private final Random random;
  private final EmberLand real = new EmberLand();
  private final Oracle oracle = new Oracle();
  private final StringBuilder log = new StringBuilder();
  private int wrong = 0;

  private OracleTest(long seed) {
    random = new Random(seed);
  }

  public static void main(String[] args) {
    int bad = 0;
    long asked = 0;
    for (int run = 0; run < RUNS && bad < 5; run++) {
      OracleTest test = new OracleTest(run);
      asked += test.run();
      if (test.wrong > 0) {
        bad++;
        System.out.println("run " + run + ":\n" + test.log);
      }
    }
    System.out.println(RUNS + " runs, " + asked + " answers, " + bad + " runs not as due");
    if (bad > 0) {
      System.exit(1);
    }
  }

  private int below(int n) {
    return random.nextInt(n);
  }

  private int run() {
    int calls = 0;
    int rounds = 1 + below(3);
    for (int r = 0; r < rounds && calls < 400; r++) {
      calls += feedText(below(12) == 0 ? soup() : spoilt(grateText()));
      due("grate()", real.grate(), oracle.grate());
      int acts = 10 + below(60);
      for (int i = 0; i < acts && calls < 440 && wrong == 0; i++) {
        if (below(25) == 0) {
          calls += feedText(below(12) == 0 ? soup() : spoilt(eveningText()));
          due("evening()", real.evening(), oracle.evening());
        } else if (below(150) == 0) {
          calls += feedText(soup());
        } else {
          call();
        }
        calls++;
      }
    }
    return calls;
  }

  private void due(String call, long got, long want) {
    log.append(call).append(" = ").append(got);
    if (got != want) {
      log.append(" due ").append(want);
      wrong++;
    }
    log.append('\n');
  }

  private int feedText(String text) {
    log.append("text: ").append(text.replace("\n", "\\n")).append('\n');
    int calls = 0;
    for (int i = 0; i < text.length(); i += 24) {
      long a = Check.eight(text, i);
      long b = Check.eight(text, i + 8);
      long c = Check.eight(text, i + 16);
      due("feed", real.feed(a, b, c), oracle.feed(a, b, c));
      calls++;
    }
    return calls;
  }

  private String blank() {
    return below(9) == 0 ? "  " : below(9) == 0 ? "\n" : " ";
  }

  private String grateText() {
    StringBuilder s = new StringBuilder();
    int embers = below(8);
    boolean low = random.nextBoolean();
    for (int i = 0; i < embers; i++) {
      int cell = below(low ? 8 : 12);
      s.append("ember ").append(NAMES[below(8) == 0 ? below(NAMES.length) : i]).append(blank());
      s.append(KINDS[below(KINDS.length)]).append(" at ").append(freeCell(s, cell));
      s.append(blank()).append("heat ").append(below(21)).append(" fuel ").append(1 + below(20)).append(" ;").append(blank());
    }
    if (below(3) > 0) {
      s.append("draught ");
      int n = 1 + below(below(4) == 0 ? 13 : 4);
      for (int i = 0; i < n; i++) {
        s.append(below(below(2) == 0 ? 4 : 10)).append(blank());
      }
      s.append("; ");
    }
    if (below(3) == 0) {
      s.append("catches ").append(1 + below(20)).append(";");
    }
    if (below(2) == 0) {
      s.append("warms ").append(law()).append(blank()).append(";");
    }
    return s.toString();
  }

  /** Most often a CELL that the text does not have yet. */
  private int freeCell(StringBuilder text, int from) {
    int cell = from;
    for (int i = 0; i < 12 && below(200) > 0; i++) {
      if (text.indexOf("at " + cell + " ") < 0 && text.indexOf("at " + cell + "\n") < 0) {
        return cell;
      }
      cell = (cell + 1) % 12;
    }
    return cell;
  }

  private String law() {
    switch (below(6)) {
      case 0: return "glow + near * 3 + air - 4";
      case 1: return "glow - 1 + near * ( air < 3 ) + 2 * ( near = 2 or not air )";
      case 2: return "( glow < 8 ) * near * 6 + ( 7 < glow ) * ( glow - 2 ) + ( left < 3 and air )";
      default: return expression(1 + below(3));
    }
  }

  private String expression(int width) {
    StringBuilder s = new StringBuilder(part(width));
    String[] joins = {"+", "-", "*", "+", "+", "and", "or", "<", "="};
    int n = below(4);
    for (int i = 0; i < n; i++) {
      s.append(' ').append(joins[below(joins.length)]).append(' ').append(part(width));
    }
    return s.toString();
  }

  private String part(int width) {
    if (width > 0 && below(4) == 0) {
      return "( " + expression(width - 1) + " )";
    }
    switch (below(9)) {
      case 0: return "not " + part(width);
      case 1: case 2: return "glow";
      case 3: return "near";
      case 4: return "air";
      case 5: return "left";
      case 6: return "" + below(10000);
      default: return "" + below(12);
    }
  }

  private String eveningText() {
    StringBuilder s = new StringBuilder();
    int n = below(below(6) == 0 ? 44 : 12);
    for (int i = 0; i < n; i++) {
      String name = NAMES[below(12) == 0 ? below(NAMES.length) : below(5)];
      switch (below(6)) {
        case 0: s.append("poke ").append(name); break;
        case 1: s.append("tongs ").append(name).append(' ').append(below(12)); break;
        case 2: s.append("feed ").append(name).append(' ').append(1 + below(9)); break;
        case 3: s.append("bank"); break;
        default: s.append("hour");
      }
      s.append(blank()).append(";").append(blank());
    }
    return s.toString();
  }

  private String spoilt(String text) {
    if (below(3) > 0) {
      return text;
    }
    int at = below(text.length() + 1);
    int to = Math.min(text.length(), at + below(4));
    String bit = BITS[below(BITS.length)];
    if (below(3) > 0) {
      bit = " " + bit + " ";
    }
    return text.substring(0, at) + bit + text.substring(to);
  }

  private String soup() {
    StringBuilder s = new StringBuilder();
    int n = below(below(8) == 0 ? 400 : 20);
    for (int i = 0; i < n; i++) {
      s.append(BITS[below(BITS.length)]);
      if (below(3) > 0) {
        s.append(' ');
      }
    }
    return s.toString();
  }

  private int ember() {
    return below(15) == 0 ? below(20) - 6 : below(7);
  }

  /** From low to high, now and then one more or less. */
  private int within(int low, int high) {
    return below(20) == 0 ? low - 2 + below(high - low + 5) : low + below(high - low + 1);
  }

  private void call() {
    if (below(3) == 0) {
      act();
    } else {
      ask(below(33));
    }
  }

  private void act() {
    int e = ember();
    int n = within(0, 11);
    switch (below(9)) {
      case 0: case 1: due("hour()", real.hour(), oracle.hour()); break;
      case 2: due("poke(" + e + ")", real.poke(e), oracle.poke(e)); break;
      case 3: due("tongs(" + e + ", " + n + ")", bit(real.tongs(e, n)), bit(oracle.tongs(e, n))); break;
      case 4: due("fuel(" + e + ", " + n + ")", real.fuel(e, n), oracle.fuel(e, n)); break;
      case 5: due("bank()", bit(real.bank()), bit(oracle.bank())); break;
      case 6: due("undo()", bit(real.undo()), bit(oracle.undo())); break;
      case 7: {
        boolean is = random.nextBoolean();
        due("tell(" + e + ", " + n + ", " + is + ")", bit(real.tell(e, n, is)), bit(oracle.tell(e, n, is)));
        break;
      }
      default: {
        int mark = within(0, 3);
        boolean back = random.nextBoolean();
        due("mark(" + mark + ", " + back + ")", bit(real.mark(mark, back)), bit(oracle.mark(mark, back)));
      }
    }
  }

  private static int bit(boolean b) {
    return b ? 1 : 0;
  }

  private void ask(int which) {
    int e = ember();
    int n = within(0, 12);
    int m = within(0, 40);
    switch (which) {
      case 0: due("ember(" + e + ", " + n + ")", real.ember(e, n), oracle.ember(e, n)); break;
      case 1: { int w = within(0, 4); due("ember(" + e + ", " + w + ")", real.ember(e, w), oracle.ember(e, w)); break; }
      case 2: due("cell(" + n + ")", real.cell(n), oracle.cell(n)); break;
      case 3: { int w = within(0, 2); due("judged(" + w + ")", real.judged(w), oracle.judged(w)); break; }
      case 4: due("out(" + e + ")", real.out(e), oracle.out(e)); break;
      case 5: due("lasts()", real.lasts(), oracle.lasts()); break;
      case 6: due("last()", real.last(), oracle.last()); break;
      case 7: due("peak()", real.peak(), oracle.peak()); break;
      case 8: due("age()", real.age(), oracle.age()); break;
      case 9: { int w = within(0, 1); due("move(" + w + ")", real.move(w), oracle.move(w)); break; }
      case 10: due("banks()", real.banks(), oracle.banks()); break;
      case 11: due("stir(" + n + ")", real.stir(n), oracle.stir(n)); break;
      case 12: due("kindle()", real.kindle(), oracle.kindle()); break;
      case 13: due("save(" + e + ")", real.save(e), oracle.save(e)); break;
      case 14: due("which()", real.which(), oracle.which()); break;
      case 15: due("look(" + n + ")", real.look(n), oracle.look(n)); break;
      case 16: {
        int h = within(1, 6);
        int odds = within(0, 10);
        due("chance(" + e + ", " + h + ", " + odds + ")", real.chance(e, h, odds), oracle.chance(e, h, odds));
        break;
      }
      case 17: due("touch(" + e + ")", real.touch(e), oracle.touch(e)); break;
      case 18: due("hall(" + e + ")", real.hall(e), oracle.hall(e)); break;
      case 19: due("halls()", real.halls(), oracle.halls()); break;
      case 20: due("tower()", real.tower(), oracle.tower()); break;
      case 21: due("alight(" + m + ")", real.alight(m), oracle.alight(m)); break;
      case 22: due("caught(" + e + ")", real.caught(e), oracle.caught(e)); break;
      case 23: due("ash(" + m + ")", real.ash(m), oracle.ash(m)); break;
      case 24: due("falls()", real.falls(), oracle.falls()); break;
      case 25: due("spare(" + e + ")", real.spare(e), oracle.spare(e)); break;
      case 26: due("lone()", real.lone(), oracle.lone()); break;
      case 27: due("warmest()", real.warmest(), oracle.warmest()); break;
      case 28: rests(within(0, 9), within(0, 9), within(0, 9), within(-1, 3)); break;
      case 29: case 30: {
        int seed = within(0, 9999);
        int h = within(1, 99);
        int w = within(0, 2);
        due("winters(" + seed + ", " + h + ", " + w + ")", real.winters(seed, h, w), oracle.winters(seed, h, w));
        break;
      }
      default: due("count(" + n + ")", real.count(n), oracle.count(n));
    }
  }

  private void rests(int both, int loses, int gets, int what) {
    long got;
    long want;
    try {
      got = real.rests(both, loses, gets, what);
    } catch (NoSuchElementException none) {
      got = -99;
    }
    try {
      want = oracle.rests(both, loses, gets, what);
    } catch (NoSuchElementException none) {
      want = -99;
    }
    due("rests(" + both + ", " + loses + ", " + gets + ", " + what + ")", got, want);
  }
}

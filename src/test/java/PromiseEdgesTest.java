import java.util.NoSuchElementException;

/** The edges that the promises 1 to 42 name: what is refused, and what is answered where there is nothing. */
public final class PromiseEdgesTest {
  private static final Check CHECK = new Check();

  /** A call with one number that may be too small or too large. */
  private interface Call {
    long with(EmberLand x, int number);
  }

  public static void main(String[] args) {
    newObject();
    feed();
    reading();
    ember();
    deeds();
    judged();
    outs();
    choices();
    sets();
    riddles();
    touching();
    views();
    sparing();
    rests();
    winters();
    mark();
    count();
    manyCalls();
    CHECK.end();
  }

  private static void of(String sentence) {
    CHECK.of(sentence);
  }

  private static void due(String call, long got, long want) {
    CHECK.due(call, got, want);
  }

  private static void due(String call, boolean got, boolean want) {
    CHECK.due(call, got, want);
  }

  private static EmberLand land(String text) {
    return CHECK.land(text);
  }

  private static String ember(String name, String kind, int cell, int heat, int fuel) {
    return Check.ember(name, kind, cell, heat, fuel);
  }

  private static int bit(boolean b) {
    return b ? 1 : 0;
  }

  /** So many of heat 9, fuel 9 in the CELLS from 0 on, which keep their heat. */
  private static EmberLand landOf(int embers) {
    StringBuilder s = new StringBuilder("warms glow ; ");
    for (int i = 0; i < embers; i++) {
      s.append(ember("" + (char) ('a' + i), "coal", i, 9, 9));
    }
    return land(s.toString());
  }

  /** Two, of which the first is ASH. */
  private static EmberLand withAsh() {
    EmberLand x = land(ember("a", "coal", 0, 9, 1) + ember("b", "coal", 1, 4, 9) + ember("c", "coal", 3, 9, 9) + "warms glow ;");
    due("a to ASH", x.hour(), 1);
    return x;
  }

  /** Of EMBERS that are none (and, if it is told, of ASH) the answer is this one, and all stays. */
  private static void refusesEmbers(String call, long refusal, boolean ashToo, Call made) {
    for (int embers : new int[] {0, 1, 4, 6, 7}) {
      EmberLand x = landOf(embers);
      String before = Check.state(x);
      for (int e = -3; e < 14; e++) {
        if (e < 0 || e >= embers) {
          due(call + " of " + e + " of " + embers, made.with(x, e), refusal);
        }
      }
      for (int e : Check.FAR) {
        due(call + " of " + e + " of " + embers, made.with(x, e), refusal);
      }
      CHECK.due(call + ": all stays", Check.state(x), before);
      if (embers > 0) {
        due(call + " of the first is not refused", made.with(x, 0) != refusal, true);
        due(call + " of the last is not refused", made.with(x, embers - 1) != refusal, true);
      }
    }
    due(call + " of a new object", made.with(new EmberLand(), 0), refusal);
    EmberLand x = withAsh();
    String before = Check.state(x);
    if (ashToo) {
      due(call + " of ASH", made.with(x, 0), refusal);
      CHECK.due(call + " of ASH: all stays", Check.state(x), before);
    } else {
      due(call + " of ASH is not refused", made.with(x, 0) != refusal, true);
    }
  }

  /** Of numbers below and above these the answer is this one, and all stays; of these it is another. */
  private static void refusesNumbers(String call, EmberLand x, long refusal, int least, int most, Call made) {
    String before = Check.state(x);
    for (int n : new int[] {least - 2, least - 1, most + 1, most + 2}) {
      due(call + " by " + n, made.with(x, n), refusal);
    }
    for (int n : Check.FAR) {
      if (n < least || n > most) {
        due(call + " by " + n, made.with(x, n), refusal);
      }
    }
    CHECK.due(call + ": all stays", Check.state(x), before);
    due(call + " by the least is not refused", made.with(x, least) != refusal, true);
    due(call + " by the most is not refused", made.with(x, most) != refusal, true);
  }

  private static void newObject() {
    of("`NONE = -1`: None.");
    due("NONE", EmberLand.NONE, -1);

    of("`EmberLand()`: Nothing.");
    EmberLand x = new EmberLand();
    for (int e = 0; e < 7; e++) {
      due("ember", x.ember(e, 0), -2);
    }
    for (int c = 0; c < 12; c++) {
      due("cell", x.cell(c), -1);
    }
    int[] counts = {0, 5, 0, 0, 0, 0, 0, 0, 0, 0, 0, 0};
    for (int w = 0; w < 12; w++) {
      due("count(" + w + ")", x.count(w), counts[w]);
    }
    due("undo", x.undo(), false);
    due("judged", x.judged(0) + x.judged(1) + x.judged(2), -2);
    due("lasts", x.lasts(), 0);
    due("last", x.last(), -1);
    due("peak", x.peak(), 0);
    due("age", x.age(), 0);
    due("move", x.move(0) + x.move(1), -2);
    due("banks", x.banks(), 0);
    due("stir", x.stir(1), -1);
    due("kindle", x.kindle(), 0);
    due("which", x.which(), 0);
    due("look", x.look(0), -1);
    due("halls", x.halls(), 0);
    due("tower", x.tower(), 0);
    due("alight", x.alight(0), 0);
    due("ash", x.ash(40), 0);
    due("falls", x.falls(), 0);
    due("lone", x.lone(), 0);
    due("warmest", x.warmest(), -1);
    due("winters", x.winters(1, 1, 0), 0);
    due("mark back", x.mark(3, true), false);
    due("mark", x.mark(3, false), true);
    due("hour", x.hour(), 0);
    due("bank", x.bank(), true);
    due("grate", x.grate(), 0);
    due("evening", x.evening(), 0);
  }

  private static void feed() {
    of("Up to 24 signs come behind the TAPE: the bytes of a, b, c, of each the highest first");
    String signs = "abcdefghijklmnopqrstuvwx";
    for (int n = 0; n <= 24; n++) {
      EmberLand x = new EmberLand();
      String text = signs.substring(0, n);
      due(n + " signs", x.feed(Check.eight(text, 0), Check.eight(text, 8), Check.eight(text, 16)), n);
      due("count(11)", x.count(11), n);
    }
    EmberLand x = new EmberLand();
    x.feed(Check.eight("hour;pok", 0), Check.eight("e a;bank", 0), Check.eight(";tongs a", 0));
    due("behind it", x.feed(Check.eight(" 3;", 0), Check.eight("feed a", 0), Check.eight(" 1;", 0)), 36);
    x = land(ember("a", "coal", 0, 1, 1));
    x.feed(Check.eight("hour;pok", 0), Check.eight("e a;bank", 0), Check.eight(";tongs a", 0));
    x.feed(Check.eight(" 3;", 0), Check.eight("feed a", 0), Check.eight(" 1;", 0));
    due("in this order", x.evening(), 0);
    due("five lines", x.count(8), 5);

    of("others than 10 and 32 .. 126, and what is beyond 1,000, are left out: how many there are.");
    x = new EmberLand();
    due("0 is left out", x.feed(0, 0, 0), 0);
    due("128 to 255 are left out", x.feed(-1, Long.MIN_VALUE, 0x80818283848586FFL), 0);
    due("9, 11, 13, 31, 127 are left out", x.feed(0x090B0D1F7F000000L, 0, 0x1F7F), 0);
    due("10, 32, 126 are not", x.feed(0x0A, 0x20, 0x7E), 3);
    due("some of them", x.feed(0x09630A6100740063L, 0x8068FF650173027EL, 0), 12);
    for (int i = 0; i < 41; i++) {
      x.feed(0x2020202020202020L, 0x2020202020202020L, 0x2020202020202020L);
    }
    due("996", x.count(11), 996);
    due("4 of 5", x.feed(0x6100610061006100L, 0, 0x61), 1000);
    due("none more", x.feed(0x61, 0x61, 0x61), 1000);
    due("none that is left out", x.feed(1, 2, 3), 1000);
  }

  private static void reading() {
    of("The TAPE is read as a GRATE: 0, or its FAULT (all stays then).");
    EmberLand x = withAsh();
    x.bank();
    x.tell(1, 3, true);
    x.mark(1, false);
    Check.evening(x, "poke a ; hour ;");
    String before = Check.state(x);
    String good = ember("q", "iron", 5, 7, 7) + "catches 9 ; draught 8 ; warms 3 ; ";
    for (String bad : new String[] {"@", good + "x", good + "catches 5", ember("q", "iron", 5, 7, 7) + "catches 0", good + "ember q"}) {
      due("a FAULT", Check.grate(x, bad) > 0, true);
      CHECK.due("all stays", Check.state(x), before);
    }
    due("the EVENING is judged as ahead", x.judged(1), 1);
    due("WHICH as ahead", x.which(), 2);
    due("the MARK is there", x.mark(1, true), true);
    x.hour();
    due("the law as ahead", x.ember(1, 2), 4);
    due("0", Check.grate(x, good), 0);
    due("it is the GRATE", x.ember(0, 0), 3);
    due("empty: 0", x.grate(), 0);
    due("nothing is there", x.count(0), 0);

    of("The TAPE is read as an EVENING, likewise.");
    x = withAsh();
    Check.evening(x, "hour ; hour ;");
    x.bank();
    before = Check.state(x);
    for (String bad : new String[] {"@", "hour ; x", "poke a ; poke q ;", "tongs a 12 ;", "feed a 0 ;", "hour;".repeat(41)}) {
      due("a FAULT", Check.evening(x, bad) > 0, true);
      CHECK.due("all stays", Check.state(x), before);
    }
    due("judged as ahead", x.judged(1), 0);
    due("0", Check.evening(x, "bank ; bank ; bank ; hour ;"), 0);
    due("its lines", x.count(8), 4);
    due("nothing is done by it", x.count(4), 1);
    due("empty: 0", x.evening(), 0);
    due("no line", x.count(8), 0);
  }

  private static void ember() {
    of("Of an EMBER, what 0: KIND (0 coal, 1 stick, 2 slack, 3 iron), 1: the CELL (NONE: it is ASH), 2: heat, 3: fuel, 4: 1 ALIGHT; -2: others.");
    for (int what = 0; what <= 4; what++) {
      int w = what;
      refusesEmbers("ember, what " + w, -2, false, (x, e) -> x.ember(e, w));
    }
    refusesNumbers("ember, what", landOf(7), -2, 0, 4, (x, w) -> x.ember(6, w));
    refusesNumbers("ember of ASH, what", withAsh(), -2, 0, 4, (x, w) -> x.ember(0, w));
    due("both", landOf(1).ember(1, 5), -2);
    int[] ash = {0, -1, 0, 0, 0};
    for (int w = 0; w < 5; w++) {
      due("of ASH " + w, withAsh().ember(0, w), ash[w]);
    }

    of("What lies in a CELL; NONE: others, nothing.");
    EmberLand x = landOf(7);
    for (int c = -4; c < 20; c++) {
      due("cell(" + c + ")", x.cell(c), c >= 0 && c < 7 ? c : -1);
    }
    for (int c : Check.FAR) {
      due("cell(" + c + ")", x.cell(c), -1);
    }
    due("the last", land(ember("a", "coal", 11, 0, 1)).cell(11), 0);
    due("where ASH was", withAsh().cell(0), -1);
  }

  private static void deeds() {
    of("HOUR: which came to ASH, as bits.");
    EmberLand x = land(ember("a", "coal", 0, 9, 2) + ember("b", "coal", 2, 9, 1) + ember("c", "coal", 8, 9, 1) + "warms glow ;");
    due("two", x.hour(), 6);
    due("another", x.hour(), 1);
    due("none", x.hour(), 0);

    of("POKE: its CELL then; NONE: others, ASH.");
    refusesEmbers("poke", -1, true, (y, e) -> y.poke(e));

    of("TONGS: true; false: others, ASH, one lies there.");
    refusesEmbers("tongs", 0, true, (y, e) -> bit(y.tongs(e, y.cell(10) < 0 ? 10 : 11)));
    x = landOf(7);
    String before = Check.state(x);
    for (int c : new int[] {-2, -1, 12, 13, 16, 0, 1, 2, 3, 4, 5, 6}) {
      due("to " + c, x.tongs(3, c), false);
    }
    for (int c : Check.FAR) {
      due("to " + c, x.tongs(3, c), false);
    }
    CHECK.due("all stays", Check.state(x), before);
    due("to the first free one", x.tongs(3, 7), true);
    due("to the last", x.tongs(3, 11), true);

    of("FEED (1 to 9): its fuel then; NONE: others, ASH.");
    refusesEmbers("fuel", -1, true, (y, e) -> y.fuel(e, 1));
    refusesNumbers("fuel", landOf(2), -1, 1, 9, (y, n) -> y.fuel(1, n));

    of("BANK: true: it is banked then.");
    x = new EmberLand();
    due("banked", x.bank(), true);
    due("no more", x.bank(), false);
    x.undo();
    due("undone: no more", x.bank(), false);

    of("UNDO: true; false: nothing can be.");
    x = landOf(2);
    before = Check.state(x);
    due("nothing", x.undo(), false);
    CHECK.due("all stays", Check.state(x), before);
    x.hour();
    due("true", x.undo(), true);
    CHECK.due("as ahead", Check.state(x), before);
    due("nothing more", x.undo(), false);
    x.hour();
    x.grate();
    due("nothing behind a GRATE", x.undo(), false);
  }

  private static void judged() {
    of("JUDGED, what 0, 1: lines (NONE: none), 2: heat; -2: others.");
    EmberLand x = landOf(1);
    refusesNumbers("judged", x, -2, 0, 2, (y, w) -> y.judged(w));
    due("no line", x.judged(0), -1);
    due("no line", x.judged(1), -1);
    due("heat", x.judged(2), 9);
    Check.evening(x, "tongs a 0 ;" + "hour ;".repeat(9));
    due("a line that can't be", x.judged(0), 0);
    due("a line of ASH", x.judged(1), 9);
    due("no heat", x.judged(2), 0);
    refusesNumbers("judged", x, -2, 0, 2, (y, w) -> y.judged(w));
    refusesNumbers("judged of a new object", new EmberLand(), -2, 0, 2, (y, w) -> y.judged(w));
  }

  private static void outs() {
    of("OUT; NONE: others, never ALIGHT, ALIGHT at the 40th.");
    refusesEmbers("out", -1, true, (x, e) -> x.out(e));
    due("never ALIGHT", land(ember("a", "coal", 0, 4, 1)).out(0), -1);
    due("ALIGHT at the 40th", land(ember("a", "coal", 0, 0, 9) + "draught 0 0 0 0 0 0 0 0 0 9 ; warms air ;").out(0), -1);
    due("at the 39th", land(ember("a", "coal", 0, 0, 9) + "draught 0 0 0 0 0 0 0 0 9 0 ; warms air ;").out(0), 40);

    of("LASTS; NONE: not by 40.");
    String flip = "warms ( glow < 5 ) * 20 ; ";
    due("by 40", land(ember("a", "coal", 0, 20, 20) + ember("b", "coal", 2, 0, 20) + flip).lasts(), 40);
    due("not by 40", land(ember("a", "coal", 0, 20, 20) + ember("b", "coal", 2, 1, 20) + ember("c", "coal", 8, 0, 20)
        + "warms ( glow = 0 ) + ( glow = 1 ) * 20 ; ").lasts(), -1);

    of("LAST; NONE: none has an OUT.");
    due("without EMBERS", land("").last(), -1);
    due("never ALIGHT", land(ember("a", "coal", 0, 4, 1)).last(), -1);
    due("ALIGHT at the 40th", land(ember("a", "coal", 0, 0, 9) + "draught 0 0 0 0 0 0 0 0 0 9 ; warms air ;").last(), -1);
    due("the seventh", land("warms glow ; " + ember("a", "iron", 0, 9, 9) + ember("b", "iron", 1, 9, 9) + ember("c", "iron", 2, 9, 9)
        + ember("d", "iron", 3, 9, 9) + ember("e", "iron", 4, 9, 9) + ember("f", "iron", 5, 9, 9) + ember("g", "coal", 6, 9, 9)).last(), 6);
    due("one that is ASH", allAsh().last(), -1);
  }

  private static EmberLand allAsh() {
    EmberLand x = land(ember("a", "coal", 0, 9, 1) + ember("b", "coal", 2, 9, 1));
    due("both to ASH", x.hour(), 3);
    return x;
  }

  private static void choices() {
    of("PEAK.");
    due("of ASH", allAsh().peak(), 0);
    due("the 40th", land(ember("a", "iron", 0, 0, 9) + "draught 0 1 ; warms glow + air ;").peak(), 40);

    of("AGE.");
    due("of ASH", allAsh().age(), 0);
    due("of 63", landOf(7).age(), 3);

    of("MOVE, what 0: the EMBER, 1: the CELL; NONE: others, none is better.");
    String apart = ember("a", "coal", 1, 10, 20) + ember("b", "coal", 3, 10, 20) + "draught 2 ;";
    refusesNumbers("move", land(apart), -1, 0, 1, (x, w) -> x.move(w));
    due("none is better", land(ember("a", "coal", 0, 9, 1)).move(0), -1);
    due("none is better", land(ember("a", "coal", 0, 9, 1)).move(1), -1);
    due("none of ASH", allAsh().move(0), -1);
    due("the EMBER 0, not none", land(apart).move(0), 0);
    EmberLand x = land(ember("i", "iron", 5, 0, 9) + ember("a", "coal", 3, 20, 20) + ember("b", "coal", 1, 20, 20) + "warms glow * ( 0 < near ) ;");
    due("the EMBER 1", x.move(0), 1);
    due("the CELL 0, not none", x.move(1), 0);

    of("BANKS; NONE: never is best.");
    due("never", land(ember("a", "coal", 0, 10, 20) + "draught 3 ;").banks(), -1);
    due("now, not never, of equal ones", land(ember("a", "coal", 0, 10, 20)).banks(), 0);
    due("of ASH", allAsh().banks(), 0);

    of("STIR; NONE: others, nothing is there.");
    refusesNumbers("stir", landOf(7), -1, 1, 12, (y, h) -> y.stir(h));
    due("without EMBERS", land("").stir(1), -1);
    due("all are ASH", allAsh().stir(12), -1);
    due("one is there", withAsh().stir(1), 1);
  }

  private static void sets() {
    of("KINDLE, as bits; NONE: by none.");
    due("none is needed", landOf(7).kindle(), 0);
    due("the seventh", land("warms 0 ; " + ember("a", "iron", 0, 9, 9) + ember("b", "iron", 1, 9, 9) + ember("c", "iron", 2, 9, 9)
        + ember("d", "iron", 3, 9, 9) + ember("e", "iron", 4, 9, 9) + ember("f", "iron", 5, 9, 9) + ember("g", "coal", 6, 4, 9)).kindle(), 64);
    // Heat 20 is ALIGHT at once, whatever catches is told: by none never comes.
    due("catches 20", land("catches 20 ; warms 0 ; " + ember("a", "coal", 0, 19, 9) + ember("b", "coal", 2, 19, 9)).kindle(), 3);
    due("of ASH", allAsh().kindle(), 0);

    of("SAVE, as bits; NONE: others, ASH, by none.");
    for (int embers : new int[] {0, 1, 7}) {
      EmberLand x = landOf(embers);
      for (int e = -3; e < 14; e++) {
        // They are all ALIGHT: by none.
        due("save of " + e + " of " + embers, x.save(e), -1);
      }
      for (int e : Check.FAR) {
        due("save of " + e, x.save(e), -1);
      }
    }
    due("of a new object", new EmberLand().save(0), -1);
    due("of ASH", withAsh().save(0), -1);
    due("none is needed", withAsh().save(1), 0);
    due("by none", withAsh().save(2), -1);
    due("the seventh", land("warms near * 10 ; " + ember("a", "iron", 8, 9, 9) + ember("b", "iron", 1, 9, 9) + ember("c", "iron", 9, 9, 9)
        + ember("d", "iron", 7, 9, 9) + ember("e", "iron", 4, 9, 9) + ember("f", "coal", 3, 0, 9) + ember("g", "coal", 2, 9, 9)).save(5), 64);
  }

  private static void riddles() {
    of("TOLD: true; false: others, 6 there are.");
    refusesEmbers("tell", 0, false, (x, e) -> bit(x.tell(e, 0, true)));
    refusesNumbers("tell, hours", landOf(7), 0, 0, 12, (x, h) -> bit(x.tell(6, h, false)));
    EmberLand x = landOf(2);
    for (int i = 0; i < 6; i++) {
      due("the " + i + "th", x.tell(1, 12, true), true);
    }
    due("6 there are", x.tell(0, 0, true), false);
    due("6 there are", x.tell(0, 0, false), false);
    due("count(9)", x.count(9), 6);
    x.mark(0, false);
    due("6 still", x.tell(0, 0, true), false);
    x.undo();
    due("6 still", x.tell(0, 0, true), false);

    of("WHICH, as bits (of those that are there).");
    due("all seven", landOf(7).which(), 127);
    due("not ASH", withAsh().which(), 6);
    due("nothing but ASH", allAsh().which(), 0);

    of("LOOK; NONE: others, none parts them.");
    String two = ember("a", "coal", 0, 0, 20) + ember("b", "coal", 2, 0, 20) + "warms glow ; ";
    refusesNumbers("look", land(two), -1, 0, 12, (y, h) -> y.look(h));
    due("none parts them", landOf(7).look(0), -1);
    due("one alone", land(ember("a", "coal", 0, 0, 20)).look(0), -1);
    due("nothing but ASH", allAsh().look(0), -1);

    of("CHANCE, by odds (0 to 10); NONE: others.");
    refusesEmbers("chance", -1, false, (y, e) -> y.chance(e, 1, 5));
    refusesNumbers("chance, hours", landOf(7), -1, 1, 6, (y, h) -> y.chance(6, h, 5));
    refusesNumbers("chance, odds", landOf(7), -1, 0, 10, (y, o) -> y.chance(6, 6, o));
    due("of ASH", withAsh().chance(0, 1, 5), 0);
  }

  private static void touching() {
    of("TOUCH, as bits; NONE: others, ASH.");
    refusesEmbers("touch", -1, true, (x, e) -> x.touch(e));
    due("none of ASH", withAsh().touch(1), 0);

    of("HALL, as bits; NONE: others, ASH.");
    refusesEmbers("hall", -1, true, (x, e) -> x.hall(e));
    due("none of ASH", withAsh().hall(1), 2);

    of("HALLS, how many.");
    due("but ASH", withAsh().halls(), 2);
    due("nothing but ASH", allAsh().halls(), 0);

    of("TOWER, how many.");
    due("but ASH", withAsh().tower(), 1);
    due("nothing but ASH", allAsh().tower(), 0);
    due("three", land(ember("a", "coal", 11, 0, 1) + ember("b", "coal", 3, 0, 1) + ember("c", "coal", 7, 0, 1)).tower(), 3);
  }

  private static void views() {
    of("Which are ALIGHT behind so many HOURS (0 to 40), as bits; NONE: others.");
    EmberLand x = land(ember("a", "coal", 0, 20, 9) + ember("b", "coal", 2, 20, 20) + ember("c", "coal", 8, 0, 20)
        + "warms glow + ( glow = 0 ) * ( 0 < air ) * 20 ; draught 0 0 0 0 0 0 0 0 0 0 0 1 ;");
    refusesNumbers("alight", x, -1, 0, 40, (y, h) -> y.alight(h));
    int[] alight = {3, 3, 3, 3, 3, 3, 3, 3, 3, 2, 2, 2, 6, 6, 6, 6, 6, 6, 6, 6, 4, 4, 4, 4, 4, 4, 4, 4, 4, 4, 4, 4, 0, 0, 0, 0, 0, 0, 0, 0, 0};
    for (int h = 0; h <= 40; h++) {
      due("alight(" + h + ")", x.alight(h), alight[h]);
    }
    due("the 40th", land(ember("a", "coal", 0, 0, 9) + "draught 0 0 0 0 0 0 0 0 0 9 ; warms air ;").alight(40), 1);

    of("CAUGHT; NONE: others, not by 40.");
    refusesEmbers("caught", -1, true, (y, e) -> y.caught(e));
    due("by 40", land(ember("a", "coal", 0, 0, 9) + "catches 20 ; draught 0 1 ; warms glow + air ;").caught(0), 40);
    due("not by 40", land(ember("a", "coal", 0, 1, 9) + "catches 20 ; draught 0 0 0 0 1 1 1 1 1 1 0 0 ; warms glow + air ;").caught(0), -1);

    of("Which are ASH behind so many HOURS (0 to 40), as bits; NONE: others.");
    refusesNumbers("ash", x, -1, 0, 40, (y, h) -> y.ash(h));
    for (int h = 0; h <= 40; h++) {
      due("ash(" + h + ")", x.ash(h), (h >= 9 ? 1 : 0) + (h >= 20 ? 2 : 0) + (h >= 32 ? 4 : 0));
    }
    due("now", withAsh().ash(0), 1);
    // ALIGHT in 3, 7 .. 39 it burns out by the 40th.
    due("by the 40th", land(ember("a", "coal", 0, 0, 10) + "draught 0 0 9 0 ; warms air ;").ash(40), 1);
    due("not by the 39th", land(ember("a", "coal", 0, 0, 10) + "draught 0 0 9 0 ; warms air ;").ash(39), 0);

    of("FALLS, as bits.");
    due("none", landOf(7).falls(), 0);
    due("the seventh", land(ember("a", "iron", 0, 9, 9) + ember("b", "iron", 1, 9, 9) + ember("c", "iron", 4, 9, 9)
        + ember("d", "iron", 3, 9, 9) + ember("e", "iron", 5, 9, 9) + ember("f", "iron", 7, 9, 9) + ember("g", "coal", 6, 9, 9)).falls(), 64);
    due("none of ASH", allAsh().falls(), 0);
  }

  private static void sparing() {
    of("SPARE; -1000: others, ASH.");
    refusesEmbers("spare", -1000, true, (x, e) -> x.spare(e));

    of("LONE, as bits.");
    due("none", landOf(7).lone(), 0);
    due("none of ASH", withAsh().lone(), 6);
    due("nothing but ASH", allAsh().lone(), 0);

    of("WARMEST; NONE: none.");
    due("without EMBERS", land("").warmest(), -1);
    due("without heat", land(ember("a", "coal", 0, 0, 1)).warmest(), -1);
    due("nothing but ASH", allAsh().warmest(), -1);
    due("the CELL 0, not none", land(ember("a", "coal", 1, 1, 1)).warmest(), 0);
  }

  private static boolean restsThrows(int both, int loses, int gets, int what) {
    try {
      new EmberLand().rests(both, loses, gets, what);
      return false;
    } catch (NoSuchElementException none) {
      return true;
    }
  }

  private static void rests() {
    of("RESTS of FIRE by what both get, what one loses, what the other one gets, what NONE: how many; "
        + "i: the i-th as 2 * the first one's choice + the other one's (1 feeds; the least first).");
    EmberLand x = new EmberLand();
    due("how many", x.rests(5, 2, 3, -1), 2);
    due("the first", x.rests(5, 2, 3, 0), 0);
    due("the second", x.rests(5, 2, 3, 1), 3);
    due("four", x.rests(0, 0, 0, -1), 4);
    for (int i = 0; i < 4; i++) {
      due("the " + i + "th of four", x.rests(9, 0, 9, i), i);
    }
    due("one feeds", x.rests(2, 0, 5, 1), 1);
    due("the other one feeds", x.rests(2, 0, 5, 2), 2);
    due("three", x.rests(2, 0, 5, -1), 3);
    due("one", x.rests(0, 9, 9, -1), 1);
    due("the one", x.rests(0, 9, 9, 0), 0);

    of("NoSuchElementException: others, none such.");
    for (int bad : new int[] {-1, 10, 11, -2, Integer.MIN_VALUE, Integer.MAX_VALUE}) {
      for (int what : new int[] {-1, 0, 3}) {
        due("both " + bad, restsThrows(bad, 0, 0, what), true);
        due("loses " + bad, restsThrows(0, bad, 0, what), true);
        due("gets " + bad, restsThrows(0, 0, bad, what), true);
      }
    }
    for (int edge : new int[] {0, 9}) {
      due("both " + edge, restsThrows(edge, 0, 0, 0), false);
      due("loses " + edge, restsThrows(0, edge, 0, 0), false);
      due("gets " + edge, restsThrows(0, 0, edge, 0), false);
    }
    for (int what : new int[] {-2, -3, 4, 5, Integer.MIN_VALUE, Integer.MAX_VALUE}) {
      due("what " + what + " of four", restsThrows(0, 0, 0, what), true);
    }
    due("the third of two", restsThrows(5, 2, 3, 2), true);
    due("the second of one", restsThrows(0, 9, 9, 1), true);
    due("the fourth of three", restsThrows(2, 0, 5, 3), true);
    x = landOf(2);
    String before = Check.state(x);
    try {
      x.rests(10, 0, 0, 0);
      due("it throws", 0, 1);
    } catch (NoSuchElementException none) {
      CHECK.due("all stays", Check.state(x), before);
    }
  }

  private static void winters() {
    of("WINTERS by a SEED (0 to 9999), what 0: ASH, 1: ALIGHT, 2: heat; NONE: others.");
    EmberLand x = landOf(7);
    String before = Check.state(x);
    for (int bad : new int[] {-1, -2, 10000, 10001, 65536, Integer.MIN_VALUE, Integer.MAX_VALUE}) {
      due("seed " + bad, x.winters(bad, 1, 0), -1);
    }
    CHECK.due("all stays", Check.state(x), before);
    due("seed 0", x.winters(0, 1, 1), 7);
    due("seed 9999", x.winters(9999, 1, 1), 7);
    refusesNumbers("winters, hours", landOf(7), -1, 1, 99, (y, h) -> y.winters(1, h, 0));
    refusesNumbers("winters, what", landOf(7), -1, 0, 2, (y, w) -> y.winters(1, 1, w));
    refusesNumbers("winters, what, without EMBERS", new EmberLand(), -1, 0, 2, (y, w) -> y.winters(1, 1, w));
    due("ASH", landOf(7).winters(1, 2, 0), 0);
    due("ALIGHT", landOf(7).winters(1, 2, 1), 7);
    due("heat", landOf(7).winters(1, 2, 2), 63);
  }

  private static void mark() {
    of("A MARK is laid (back: gone back to): true; false: none such, nothing is on it (back).");
    EmberLand x = landOf(3);
    x.hour();
    String before = Check.state(x);
    for (int m : new int[] {-2, -1, 4, 5, 8}) {
      due("lay " + m, x.mark(m, false), false);
      due("back to " + m, x.mark(m, true), false);
    }
    for (int m : Check.FAR) {
      due("lay " + m, x.mark(m, false), false);
      due("back to " + m, x.mark(m, true), false);
    }
    for (int m = 0; m < 4; m++) {
      due("nothing is on " + m, x.mark(m, true), false);
    }
    CHECK.due("all stays", Check.state(x), before);
    for (int m = 0; m < 4; m++) {
      due("lay " + m, x.mark(m, false), true);
      for (int k = m + 1; k < 4; k++) {
        due("nothing is on " + k, x.mark(k, true), false);
      }
      x.hour();
    }
    for (int m = 3; m >= 0; m--) {
      due("back to " + m, x.mark(m, true), true);
      due("its hour", x.count(2), m + 1);
    }
    due("laid over another", x.mark(3, false), true);
    x.hour();
    due("back", x.mark(3, true), true);
    due("its hour", x.count(2), 1);
  }

  private static void count() {
    of("What 0: EMBERS told, 1: catches, 2: the hour, 3: its draught as told, 4: 1 banked, 5: heat of all, 6: fuel of all, "
        + "7: which are ASH, as bits, 8: lines of the EVENING, 9: TOLD, 10: what can be undone, 11: signs on the TAPE.");
    EmberLand x = withAsh();
    x.bank();
    Check.evening(x, "hour ; hour ; bank ;");
    x.tell(0, 0, true);
    Check.feed(x, "abcd");
    int[] want = {3, 5, 1, 0, 1, 13, 17, 1, 3, 1, 2, 4};
    for (int w = 0; w < 12; w++) {
      due("count(" + w + ")", x.count(w), want[w]);
    }
    x = land("draught 4 7 ;");
    x.bank();
    due("as told, though banked", x.count(3), 4);

    of("NONE for another what.");
    refusesNumbers("count", landOf(7), -1, 0, 11, (y, w) -> y.count(w));
    refusesNumbers("count of a new object", new EmberLand(), -1, 0, 11, (y, w) -> y.count(w));
  }

  private static void manyCalls() {
    of("An object is used for at most 512 calls after it has been made");
    EmberLand x = new EmberLand();
    Check.grate(x, "draught 1 2 3 4 5 6 7 ;");
    for (int calls = 4; calls < 510; calls++) {
      x.hour();
    }
    due("the hour", x.count(2), 506);
    due("its draught", x.count(3), 3);
    x = new EmberLand();
    for (int i = 0; i < 512; i++) {
      due("feed", x.feed(-1, 0x2020202020202020L, 0), Math.min(1000, 8 * i + 8));
    }
    x = new EmberLand();
    for (int i = 0; i < 128; i++) {
      due("bank", x.bank(), true);
      due("undo", x.undo(), true);
      due("mark", x.mark(i % 4, false), true);
      due("back", x.mark(i % 4, true), true);
    }
  }
}

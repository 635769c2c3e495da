import java.util.List;
import java.util.NoSuchElementException;

/** Each promise of the document: ordinary inputs, the edges it names, wrong inputs. */
public final class PromiseTest {
  private static final Check CHECK = new Check();
  private static final int[] BAD_EMBERS = {-1, -2, 7, 8, 12, Integer.MIN_VALUE, Integer.MAX_VALUE};

  /** Four in a row below; by its law just those are ALIGHT beside which one was. */
  private static final String CHAIN = "ember a coal at 0 heat 0 fuel 20 ; ember b coal at 1 heat 0 fuel 20 ; "
      + "ember c coal at 2 heat 0 fuel 20 ; ember d coal at 3 heat 0 fuel 20 ; warms near * 10 ; ";
  /** Three of which just one is ALIGHT in each hour, in turn, for sixty hours. */
  private static final String TURNS = "ember a coal at 0 heat 20 fuel 20 ; ember b coal at 2 heat 1 fuel 20 ; "
      + "ember c coal at 8 heat 0 fuel 20 ; warms ( glow = 0 ) + ( glow = 1 ) * 20 ; ";

  public static void main(String[] args) {
    newObject();
    feed();
    grateFaults();
    grateTokens();
    grateAnew();
    laws();
    evening();
    ember();
    hour();
    falling();
    poke();
    tongs();
    fuel();
    bank();
    undo();
    judged();
    out();
    lasts();
    last();
    peakAndAge();
    move();
    banks();
    stir();
    kindle();
    save();
    tellAndWhich();
    look();
    chance();
    touching();
    alightCaughtAsh();
    falls();
    spare();
    warmest();
    rests();
    winters();
    mark();
    count();
    CHECK.end();
  }

  private static void due(String call, long got, long want) {
    CHECK.due(call, got, want);
  }

  private static void due(String call, boolean got, boolean want) {
    CHECK.due(call, got, want);
  }

  private static EmberLand land(String text) {
    return CHECK.land(text);
  }

  /** The FAULT of a text in which ^ stands ahead of the wrong token. */
  private static void faultInGrate(int kind, String marked) {
    String text = marked.replace("^", "");
    due("grate of " + marked, Check.grate(new EmberLand(), text), kind + 16 * marked.indexOf('^'));
  }

  private static void faultInEvening(int kind, String marked) {
    String text = marked.replace("^", "");
    EmberLand x = land("ember pp coal at 1 heat 1 fuel 1 ; ember qq iron at 2 heat 1 fuel 1 ;");
    due("evening of " + marked, Check.evening(x, text), kind + 16 * marked.indexOf('^'));
  }

  private static void newObject() {
    EmberLand x = new EmberLand();
    int[] counts = {0, 5, 0, 0, 0, 0, 0, 0, 0, 0, 0, 0, -1};
    for (int i = 0; i < counts.length; i++) {
      due("new: count(" + i + ")", x.count(i), counts[i]);
    }
    due("new: undo()", x.undo(), false);
    for (int c = 0; c < 12; c++) {
      due("new: cell(" + c + ")", x.cell(c), -1);
    }
    for (int m = 0; m < 4; m++) {
      due("new: mark(" + m + ", true)", x.mark(m, true), false);
    }
    due("new: grate() of nothing", x.grate(), 0);
    due("new: evening() of nothing", x.evening(), 0);
    due("new: evening of a name", Check.evening(x, "poke a ;"), 2 + 16 * 5);
    due("NONE", EmberLand.NONE, -1);
  }

  private static void feed() {
    EmberLand x = new EmberLand();
    due("feed of nothing", x.feed(0, 0, 0), 0);
    due("feed of 10 32 126", x.feed(0x0A207E0000000000L, 0, 0), 3);
    due("feed of what is none", x.feed(0x7F1F090B0D80FF01L, -1, Long.MIN_VALUE), 3);
    due("count(11)", x.count(11), 3);
    due("126 is no token", x.grate(), 1 + 16 * 2);
    due("count(11) behind a FAULT", x.count(11), 0);
    x.feed(Check.eight("hour;ban", 0), Check.eight("k;hour;b", 0), Check.eight("ank;hour", 0));
    due("the order of bytes", x.evening(), 1 + 16 * 24);
    x.feed(Check.eight("hour", 0), Check.eight(";bank;", 0), Check.eight("hour;", 0));
    due("the order of longs", x.evening(), 0);
    due("lines", x.count(8), 3);
    int answer = 0;
    for (int i = 0; i < 41; i++) {
      answer = x.feed(0x2020202020202020L, 0x2020202020202020L, 0x2020202020202020L);
    }
    due("984 blanks", answer, 984);
    due("up to 1,000", x.feed(Check.eight("        ", 0), Check.eight("   bank;", 0), Check.eight("bank", 0)), 1000);
    due("none beyond 1,000", x.feed(Check.eight("bank", 0), 0, 0), 1000);
    due("evening up to the 1,000th", x.evening(), 0);
    due("its lines", x.count(8), 1);
    due("the tape is taken", x.count(11), 0);
  }

  private static void grateFaults() {
    String one = "ember pp iron at 1 heat 1 fuel 1 ; ";
    String[] reserved = {"ember", "at", "heat", "fuel", "draught", "catches", "warms", "hour", "poke", "tongs", "feed",
      "bank", "coal", "stick", "slack", "iron", "not", "and", "or"};
    for (String word : reserved) {
      faultInGrate(1, "ember ^" + word + " coal at 1 heat 1 fuel 1 ;");
      if (!List.of("coal", "stick", "slack", "iron").contains(word)) {
        faultInGrate(1, "ember pp ^" + word + " at 1 heat 1 fuel 1 ;");
      }
    }
    for (String fact : new String[] {"glow", "near", "air", "left"}) {
      faultInGrate(1, "ember pp ^" + fact + " at 1 heat 1 fuel 1 ;");
    }
    // What could begin a line can't stand within one.
    String[] begun = {"ember", "ember pp", "ember pp coal", "ember pp coal at", "ember pp coal at 1", "ember pp coal at 1 heat",
      "ember pp coal at 1 heat 1", "ember pp coal at 1 heat 1 fuel", "ember pp coal at 1 heat 1 fuel 1", "draught", "draught 1",
      "catches", "catches 1", "warms", "warms 1", "warms 1 +", "warms ( 1"};
    for (String begin : begun) {
      faultInGrate(1, begin + " ^catches 5 ;");
    }
    String[] outOfPlace = {"^grate", "^;", "^7", "^hour ;", "^pp", "ember^", "ember  ^", "ember ^7", "ember ^;",
      "ember pp ^log", "ember pp ^7", "ember pp ^at", "ember pp^", "ember pp coal ^1", "ember pp coal at ^x",
      "ember pp coal at^", "ember pp coal at 1 ^fuel", "ember pp coal at 1 heat ^;", "ember pp coal at 1 heat 1 ^;",
      "ember pp coal at 1 heat 1 fuel ^;", "ember pp coal at 1 heat 1 fuel 1 ^ember",
      "ember pp coal at 1 heat 1 fuel 1 \n ^", "draught ^;", "draught^", "draught ^x", "draught 1 ^x ;", "draught 1^",
      "draught 1 1 1 1 1 1 1 1 1 1 1 1 ^x", "catches ^;", "catches ^x", "catches 1 ^1 ;", "catches 1^", "warms ^;",
      "warms^", "warms ^heat ;", "warms ^pp ;", "warms glow ^glow", "warms glow ^5", "warms 1 + ^;", "warms 1 + ^+ 1",
      "warms ^* 1", "warms ^- 1", "warms ^and 1", "warms ( 1 ^;", "warms ( 1 ) ^) ;", "warms ( ^) ;", "warms 1 ^( 1 )",
      "warms 1 < 2 ^< 3 ;", "warms 1 = 2 ^= 3 ;", "warms 1 = 2 ^< 3 ;", "warms 1 ^not 2", "warms not ^; ", "warms 1^",
      "warms 1 and ^or 1", "^Ember", "^@", "catches 5 ^> ;", "catches 5 ^, ;", "ember pp^_ coal", "ember ^abcdefghi coal",
      "catches ^00005 ;", "warms ^12345 ;"};
    for (String text : outOfPlace) {
      faultInGrate(1, text);
    }
    String[] twice = {one + "ember ^pp coal", one + "ember qq coal at ^1 heat", one + "ember qq coal at ^0001 heat",
      "draught 0 ; ^draught", "catches 5 ; " + one + "^catches 6", "warms 0 ; ^warms 1"};
    for (String text : twice) {
      faultInGrate(3, text);
    }
    String[] notAsTold = {"ember pp iron at ^12", "ember pp iron at ^9999", "ember pp iron at 11 heat ^21",
      "ember pp iron at 0 heat 20 fuel ^0", "ember pp iron at 0 heat 0 fuel ^21", "draught ^10", "draught 9 ^10",
      "catches ^0", "catches ^21", "draught 1 1 1 1 1 1 1 1 1 1 1 1 ^10"};
    for (String text : notAsTold) {
      faultInGrate(4, text);
    }
    StringBuilder seven = new StringBuilder();
    for (int i = 0; i < 7; i++) {
      seven.append("ember ").append((char) ('a' + i)).append(" coal at ").append(i).append(" heat 1 fuel 1 ; ");
    }
    due("seven EMBERS", Check.grate(new EmberLand(), seven.toString()), 0);
    String[] tooMany = {seven + "^ember h coal at 7 heat 1 fuel 1 ;", seven + "^ember",
      "draught 1 1 1 1 1 1 1 1 1 1 1 1 ^2", "draught 1 1 1 1 1 1 1 1 1 1 1 1 ^9", "warms not not not not not ^1 ;", "warms not not not not not ^not 1 ;",
      "warms ( ( ( ( ( ^1 ) ) ) ) ) ;", "warms ( not ( not ( ^glow", "warms 1 + ( ( ( ( ( ^( 1", "warms not ( ( ( ( ^not"};
    for (String text : tooMany) {
      faultInGrate(5, text);
    }
    faultInGrate(1, "warms ( ( ( ( ( ^) ;");
    faultInGrate(1, "warms not not not not not ^and");
    faultInGrate(1, seven + "^embers");
    due("twelve draughts", Check.grate(new EmberLand(), "draught 1 1 1 1 1 1 1 1 1 1 1 9 ;"), 0);
    due("four deep", Check.grate(new EmberLand(), "warms ( not ( not 1 ) ) + ( ( ( ( 1 ) ) ) ) ;"), 0);
  }

  private static void grateTokens() {
    EmberLand x = land("ember a coal at 0heat 20fuel7;draught1 2;catches0007;warms3;");
    due("no blanks", x.count(1), 7);
    due("no blanks: fuel", x.ember(0, 3), 7);
    x = land("\n ember\nglow stick at 11 heat 0 fuel 1 ; ember abcdefgh slack at 10 heat 0 fuel 20 ;\n");
    due("facts may be NAMES", x.count(0), 2);
    due("facts may be NAMES", Check.grate(new EmberLand(), "ember near coal at 1 heat 1 fuel 1 ; ember air coal at 2 heat 1 fuel 1 ; "
        + "ember left coal at 3 heat 1 fuel 1 ;"), 0);
    due("its KIND", x.ember(0, 0), 1);
    due("its CELL", x.cell(11), 0);
    x = land("ember a coal at 1 heat 1 fuel 1 ; ember aa coal at 2 heat 1 fuel 1 ; ember ba coal at 3 heat 1 fuel 1 ;");
    due("alike but for a letter", x.count(0), 3);
    x = land("ember ab coal at 1 heat 1 fuel 1 ; ember ba coal at 2 heat 1 fuel 1 ;");
    due("the same letters", x.count(0), 2);
    Check.grate(x, "7777777777777777777777777777777777777777");
    due("nothing is left of an old TAPE", Check.grate(x, "catches 1"), 1 + 16 * 9);
    Check.grate(x, "pppppppppppppppppppppppppppppppppppppppp");
    due("nothing is left of an old TAPE", Check.grate(x, "ember p"), 1 + 16 * 7);
    x = land("");
    due("nothing is a GRATE", x.count(0), 0);
    x = land("catches 20 ; draught 9 8 7 ;");
    due("catches", x.count(1), 20);
    int[] draughts = {9, 8, 7, 9, 8};
    for (int d : draughts) {
      due("draughts again and again", x.count(3), d);
      x.hour();
    }
  }

  private static void grateAnew() {
    EmberLand x = land("ember a coal at 0 heat 9 fuel 3 ; catches 4 ; draught 3 2 ; warms 7 ;");
    x.hour();
    x.bank();
    due("an EVENING", Check.evening(x, "hour ; bank ;"), 0);
    x.tell(0, 0, true);
    for (int m = 0; m < 4; m++) {
      x.mark(m, false);
    }
    int[] before = counts(x);
    String wrong = "ember z iron at 0 heat 0 fuel 1 ; catches 9 ; draught 1 ; warms 1 ; catches";
    due("a FAULT", Check.grate(x, wrong), 3 + 16 * wrong.lastIndexOf("catches"));
    int[] after = counts(x);
    for (int i = 0; i < 12; i++) {
      due("behind a FAULT: count(" + i + ")", after[i], before[i]);
    }
    due("behind a FAULT: KIND", x.ember(0, 0), 0);
    due("behind a FAULT: the NAMES", Check.evening(x, "poke a ; hour ; hour ;"), 0);
    due("behind a FAULT: the MARK", x.mark(2, true), true);
    x.hour();
    due("behind a FAULT: the law", x.ember(0, 2), 7);
    due("a GRATE anew", Check.grate(x, "ember z iron at 5 heat 6 fuel 8 ;"), 0);
    int[] want = {1, 5, 0, 0, 0, 6, 8, 0, 0, 0, 0, 0};
    for (int i = 0; i < 12; i++) {
      due("anew: count(" + i + ")", x.count(i), want[i]);
    }
    for (int m = 0; m < 4; m++) {
      due("anew: no MARK", x.mark(m, true), false);
    }
    due("anew: nothing undone", x.undo(), false);
    due("anew: KIND", x.ember(0, 0), 3);
    due("anew: the old CELL", x.cell(0), -1);
    x.hour();
    due("anew: the usual law", x.ember(0, 2), 3);
    due("anew: the old NAME", Check.evening(x, "poke a ;"), 2 + 16 * 5);
  }

  private static int[] counts(EmberLand x) {
    int[] counts = new int[12];
    for (int i = 0; i < 12; i++) {
      counts[i] = x.count(i);
    }
    return counts;
  }

  /** The heat behind an HOUR of one with heat 10, fuel 7, an ALIGHT one beside it, in a draught of 4. */
  private static void law(String law, int heat) {
    EmberLand x = land("ember a coal at 0 heat 10 fuel 7 ; ember b coal at 1 heat 20 fuel 9 ; draught 4 ; warms " + law + " ;");
    x.hour();
    due("warms " + law, x.ember(0, 2), heat);
  }

  private static void laws() {
    law("glow", 10);
    law("near", 1);
    law("air", 4);
    law("left", 7);
    law("1 + 2 * 3", 7);
    law("2 * 3 + 1", 7);
    law("10 - 3 - 2", 5);
    law("10 - ( 3 - 2 )", 9);
    law("2 * 3 * 3", 18);
    law("1 + 1 = 2", 1);
    law("3 < 2 + 2", 1);
    law("3 < 3", 0);
    law("4 < 3", 0);
    law("3 = 4", 0);
    law("1 or 1 and 0", 0);
    law("0 and 0 or 1", 1);
    law("0 and ( 0 or 1 )", 0);
    law("7 and 9", 1);
    law("0 or 9", 1);
    law("0 or 0", 0);
    law("7 and 0", 0);
    law("0 - 1 and 1", 1);
    law("not 0 * 5", 5);
    law("not 5 + 3", 3);
    law("not not 7", 1);
    law("not ( 0 - 3 )", 0);
    law("( 1 < 2 ) * 6 + ( 2 < 1 ) * 9", 6);
    law("2 < 3 and 5 = 5", 1);
    law("0 - 5", 0);
    law("20", 20);
    law("21", 20);
    law("9999", 20);
    law("9999 * 9999 * 30", 0);
    law("9999 * 9999 * 20 + 9999 * 9999 * 10", 0);
    law("( 0 - 9999 ) * 9999 * 20 - 9999 * 9999 * 10", 20);
    law("9999 * 9999 * 30 < 0", 1);
    // All that can wait at once: 4 numbers at each depth.
    String deep = "0 or 3 < 2 + 2 * ";
    law(deep + "( " + deep + "( " + deep + "( " + deep + "( " + deep + "1 ) ) ) )", 1);
    law("5 - 0 * ( " + deep + "( " + deep + "( " + deep + "( " + deep + "0 ) ) ) )", 5);
  }

  private static void evening() {
    String[] outOfPlace = {"^ash ;", "^;", "^pp ;", "^7", "^ember", "hour^", "hour  ^", "hour ^hour", "hour ^pp ;",
      "bank ^pp ;", "poke ^;", "poke ^hour ;", "poke ^7 ;", "poke ^coal", "poke pp ^3 ;", "poke pp^", "tongs pp ^;",
      "tongs ^3", "tongs pp ^pp", "tongs pp 3 ^3", "feed pp ^;", "feed pp ^x", "feed pp 1 ^1", "poke ^abcdefghi", "hour ^@"};
    for (String text : outOfPlace) {
      faultInEvening(1, text);
    }
    faultInEvening(2, "poke ^xx");
    faultInEvening(2, "hour ; tongs ^p 3 ;");
    faultInEvening(2, "feed ^glow 3 ;");
    faultInEvening(4, "tongs pp ^12");
    faultInEvening(4, "feed pp ^0");
    faultInEvening(4, "feed pp ^10");
    String forty = "hour;".repeat(40);
    faultInEvening(5, forty + "^bank");
    faultInEvening(5, forty + " ^poke xx");
    faultInEvening(1, forty + " ^ash");
    faultInEvening(1, forty + " ^;");
    EmberLand x = land("ember pp coal at 1 heat 9 fuel 1 ; ember qq iron at 2 heat 1 fuel 1 ;");
    due("forty lines", Check.evening(x, forty), 0);
    due("forty lines: count(8)", x.count(8), 40);
    due("a FAULT", Check.evening(x, "bank ; bank"), 1 + 16 * 11);
    due("behind a FAULT: count(8)", x.count(8), 40);
    due("an EVENING does nothing", x.count(2), 0);
    x.hour();
    due("pp is ASH", x.count(7), 1);
    due("of one that is ASH", Check.evening(x, "poke pp ; tongs qq 0 ; tongs qq 11 ; feed pp 1 ; feed pp 9 ;"), 0);
    due("its lines", x.count(8), 5);
    due("nothing", Check.evening(x, " \n "), 0);
    due("its lines", x.count(8), 0);
    due("UNDO stays", x.count(10), 1);
  }

  private static void ember() {
    EmberLand x = land("ember a coal at 4 heat 5 fuel 1 ; ember b stick at 1 heat 4 fuel 20 ; "
        + "ember c slack at 11 heat 20 fuel 3 ; ember d iron at 0 heat 20 fuel 9 ;");
    int[][] want = {{0, 4, 5, 1, 1}, {1, 1, 4, 20, 0}, {2, 11, 20, 3, 1}, {3, 0, 20, 9, 0}};
    for (int e = 0; e < 4; e++) {
      for (int w = 0; w < 5; w++) {
        due("ember(" + e + ", " + w + ")", x.ember(e, w), want[e][w]);
      }
      due("ember: what 5", x.ember(e, 5), -2);
      due("ember: what -1", x.ember(e, -1), -2);
      due("cell", x.cell(want[e][1]), e);
    }
    due("ember(4, 0)", x.ember(4, 0), -2);
    for (int bad : BAD_EMBERS) {
      due("ember(" + bad + ", 0)", x.ember(bad, 0), -2);
    }
    x.hour();
    int[] ash = {0, -1, 0, 0, 0};
    for (int w = 0; w < 5; w++) {
      due("of ASH " + w, x.ember(0, w), ash[w]);
    }
    due("cell of ASH", x.cell(4), -1);
    due("cell(-1)", x.cell(-1), -1);
    due("cell(12)", x.cell(12), -1);
    due("cell(MAX)", x.cell(Integer.MAX_VALUE), -1);
    due("cell(MIN)", x.cell(Integer.MIN_VALUE), -1);
  }

  private static void hour() {
    // b has a and d ALIGHT beside it, and dull slack c; e stands off, beside none.
    EmberLand x = land("ember a coal at 0 heat 9 fuel 9 ; ember b coal at 1 heat 4 fuel 9 ; ember c slack at 5 heat 4 fuel 9 ; "
        + "ember d stick at 2 heat 9 fuel 9 ; ember e coal at 7 heat 9 fuel 9 ; ember f iron at 3 heat 9 fuel 9 ; draught 1 5 ;");
    due("hour()", x.hour(), 0);
    due("near: one that is not ALIGHT", x.ember(0, 2), 7);
    due("near: two less the dull one", x.ember(1, 2), 4);
    due("slack", x.ember(2, 2), 2);
    due("near: not iron", x.ember(3, 2), 7);
    due("near: nothing wraps round", x.ember(4, 2), 7);
    due("iron: near d and e", x.ember(5, 2), 11);
    int[] fuels = {8, 9, 9, 7, 8, 9};
    for (int e = 0; e < 6; e++) {
      due("fuel of " + e, x.ember(e, 3), fuels[e]);
    }
    due("the hour", x.count(2), 1);
    x.bank();
    due("banked", x.hour(), 0);
    due("banked: no air", x.ember(0, 2), 4);
    x.undo();
    x.undo();
    x.hour();
    due("the second draught", x.ember(0, 2), 9);

    x = land("ember a coal at 0 heat 2 fuel 5 ; ember s slack at 1 heat 0 fuel 5 ; ember t slack at 4 heat 0 fuel 5 ; draught 3 ;");
    x.hour();
    due("near is 0 at least", x.ember(0, 2), 2);
    x = land("ember a coal at 0 heat 2 fuel 5 ; ember s slack at 1 heat 5 fuel 5 ; draught 3 ;");
    x.hour();
    due("slack that is ALIGHT counts", x.ember(0, 2), 4);

    x = land("ember a coal at 0 heat 20 fuel 1 ; ember b stick at 1 heat 20 fuel 2 ; ember c stick at 2 heat 20 fuel 1 ; "
        + "ember d stick at 3 heat 20 fuel 3 ; ember e slack at 4 heat 20 fuel 1 ; ember f iron at 5 heat 20 fuel 1 ; "
        + "ember g coal at 6 heat 4 fuel 1 ; draught 9 ;");
    due("to ASH", x.hour(), 1 + 2 + 4 + 16);
    due("a stick's fuel", x.ember(3, 3), 1);
    due("ALIGHT but now: it has its fuel", x.ember(6, 3), 1);
    due("it is ALIGHT", x.ember(6, 4), 1);
    due("to ASH in the next", x.hour(), 8 + 64);
    due("all ASH but iron", x.count(7), 95);
    due("none more", x.hour(), 0);
    due("hours", x.count(2), 3);
  }

  private static void falling() {
    EmberLand x = land("ember a coal at 8 heat 0 fuel 1 ; ember b coal at 4 heat 0 fuel 1 ; ember c coal at 11 heat 0 fuel 1 ; "
        + "ember d coal at 6 heat 0 fuel 1 ; ember e coal at 2 heat 0 fuel 1 ; ember f coal at 3 heat 0 fuel 1 ;");
    x.hour();
    int[] cells = {4, 0, 7, 6, 2, 3};
    for (int e = 0; e < 6; e++) {
      due("fallen " + e, x.ember(e, 1), cells[e]);
      due("lies there " + e, x.cell(cells[e]), e);
    }
    due("nothing in 8", x.cell(8), -1);
    due("nothing in 11", x.cell(11), -1);
    x = land("ember a coal at 8 heat 0 fuel 1 ;");
    x.hour();
    due("none falls twice", x.ember(0, 1), 4);
    x = land("ember a coal at 8 heat 0 fuel 1 ; ember b coal at 4 heat 0 fuel 1 ; ember c coal at 0 heat 20 fuel 1 ;");
    due("the lowest burns out", x.hour(), 4);
    due("b falls", x.ember(1, 1), 0);
    due("a falls", x.ember(0, 1), 4);
  }

  private static void poke() {
    EmberLand x = land("ember a coal at 8 heat 1 fuel 5 ; ember b coal at 5 heat 18 fuel 5 ; ember c iron at 1 heat 17 fuel 5 ;");
    due("it falls", x.poke(0), 4);
    due("its heat", x.ember(0, 2), 4);
    due("it falls again", x.poke(0), 0);
    due("it is below", x.poke(0), 0);
    due("its heat", x.ember(0, 2), 10);
    due("it lies on one", x.poke(1), 5);
    due("20 at most", x.ember(1, 2), 20);
    due("iron", x.poke(2), 1);
    due("its heat", x.ember(2, 2), 20);
    due("no hour", x.count(2), 0);
    due("what can be undone", x.count(10), 5);
    for (int bad : BAD_EMBERS) {
      due("poke(" + bad + ")", x.poke(bad), -1);
    }
    due("poke(3)", x.poke(3), -1);
    due("nothing more", x.count(10), 5);
    x = land("ember a coal at 0 heat 9 fuel 1 ;");
    x.hour();
    due("poke of ASH", x.poke(0), -1);
    due("poke of ASH is nothing", x.count(10), 1);
  }

  private static void tongs() {
    EmberLand x = land("ember a coal at 0 heat 9 fuel 1 ; ember b coal at 1 heat 2 fuel 1 ;");
    due("where one lies", x.tongs(0, 1), false);
    due("where it lies", x.tongs(0, 0), false);
    due("up", x.tongs(0, 11), true);
    due("it hangs there", x.ember(0, 1), 11);
    due("cell(11)", x.cell(11), 0);
    due("cell(0)", x.cell(0), -1);
    due("its heat", x.ember(0, 2), 9);
    due("tongs to 12", x.tongs(0, 12), false);
    due("tongs to -1", x.tongs(0, -1), false);
    for (int bad : BAD_EMBERS) {
      due("tongs(" + bad + ", 5)", x.tongs(bad, 5), false);
    }
    due("tongs(2, 5)", x.tongs(2, 5), false);
    due("what can be undone", x.count(10), 1);
    x.hour();
    due("tongs of ASH", x.tongs(0, 5), false);
    due("to where ASH was", x.tongs(1, 11), true);
  }

  private static void fuel() {
    EmberLand x = land("ember a coal at 0 heat 9 fuel 1 ; ember b iron at 1 heat 2 fuel 12 ;");
    due("fuel(0, 0)", x.fuel(0, 0), -1);
    due("fuel(0, 10)", x.fuel(0, 10), -1);
    due("fuel(0, -1)", x.fuel(0, -1), -1);
    due("nothing", x.count(10), 0);
    due("fuel(0, 1)", x.fuel(0, 1), 2);
    due("fuel(1, 8)", x.fuel(1, 8), 20);
    due("fuel(1, 9)", x.fuel(1, 9), 20);
    due("of all", x.count(6), 22);
    due("what can be undone", x.count(10), 3);
    for (int bad : BAD_EMBERS) {
      due("fuel(" + bad + ", 5)", x.fuel(bad, 5), -1);
    }
    x.hour();
    due("not ASH yet", x.ember(0, 3), 1);
    x.hour();
    due("fuel of ASH", x.fuel(0, 5), -1);
  }

  private static void bank() {
    EmberLand x = land("ember a coal at 0 heat 9 fuel 9 ; draught 8 ;");
    due("bank()", x.bank(), true);
    due("as told all the same", x.count(3), 8);
    x.hour();
    due("no air", x.ember(0, 2), 6);
    due("stays banked", x.count(4), 1);
    due("bank() again", x.bank(), false);
    x.hour();
    due("air", x.ember(0, 2), 11);
  }

  private static void undo() {
    EmberLand x = land("ember a coal at 4 heat 9 fuel 1 ; ember b coal at 1 heat 9 fuel 9 ; draught 1 2 ;");
    x.bank();
    x.poke(0);
    x.tongs(1, 7);
    x.fuel(1, 3);
    due("to ASH", x.hour(), 1);
    due("undo the hour", x.undo(), true);
    due("no ASH", x.count(7), 0);
    due("the hour", x.count(2), 0);
    due("heat", x.ember(0, 2), 12);
    due("cell of a", x.ember(0, 1), 0);
    due("cell of b", x.ember(1, 1), 7);
    due("undo the fuel", x.undo(), true);
    due("fuel", x.ember(1, 3), 9);
    due("undo the tongs", x.undo(), true);
    due("cell of b", x.cell(1), 1);
    due("nothing in 7", x.cell(7), -1);
    due("undo the poke", x.undo(), true);
    due("heat", x.ember(0, 2), 9);
    due("cell of a", x.ember(0, 1), 4);
    due("banked", x.count(4), 1);
    due("undo the bank", x.undo(), true);
    due("not banked", x.count(4), 0);
    due("no more", x.undo(), false);
    for (int i = 0; i < 20; i++) {
      x.hour();
    }
    due("16 at most", x.count(10), 16);
    for (int i = 0; i < 16; i++) {
      due("undo " + i, x.undo(), true);
      due("the hour", x.count(2), 19 - i);
      due("what is left", x.count(10), 15 - i);
    }
    due("no 17th", x.undo(), false);
    x.tell(1, 1, true);
    x.hour();
    x.undo();
    due("TOLD stays", x.count(9), 1);
    Check.evening(x, "hour ;");
    x.hour();
    x.undo();
    due("the EVENING stays", x.count(8), 1);
  }

  private static void judged() {
    String grate = "ember a stick at 4 heat 20 fuel 2 ; ember b coal at 8 heat 10 fuel 9 ; ember c iron at 3 heat 0 fuel 1 ; draught 2 ;";
    EmberLand x = land(grate);
    due("no EVENING", x.judged(0), -1);
    due("no EVENING", x.judged(1), -1);
    due("no EVENING: as told", x.judged(2), 30);
    due("judged(3)", x.judged(3), -2);
    due("judged(-1)", x.judged(-1), -2);
    Check.evening(x, "tongs b 4 ; tongs c 3 ; bank ; hour ; poke a ; feed a 1 ; tongs a 1 ; hour ; tongs b 4 ; feed c 9 ;");
    due("to where one lies", x.judged(0), 0);
    due("a is ASH", x.judged(1), 3);
    // b: 10 + 2 - 3 in the first hour, 9 - 3 in the second; c: 0.
    due("heat", x.judged(2), 6);
    x.poke(1);
    x.hour();
    due("from the begin", x.judged(2), 6);
    Check.evening(x, "tongs a 5 ; poke b ; feed c 9 ; feed c 9 ; feed c 9 ;");
    due("all can be", x.judged(0), -1);
    due("no ASH", x.judged(1), -1);
    due("heat", x.judged(2), 33);
    Check.evening(x, "tongs c 3 ;");
    due("to where it lies itself", x.judged(0), 0);
    Check.evening(x, "hour ; hour ; feed b 1 ; tongs a 11 ; feed a 1 ;");
    due("of ASH", x.judged(0), 3);
    due("the first ASH", x.judged(1), 0);
    Check.evening(x, "poke b ; hour ; bank ; hour ; bank ; hour ;");
    // 13, near a: 14; then 11; then 10.
    due("banked and not", x.judged(2), 10);
    due("all can be", x.judged(0), -1);
    due("ASH by the second line", x.judged(1), 1);
    Check.evening(x, "feed a 9 ; feed a 9 ; hour ; hour ; hour ;");
    due("fed: no ASH", x.judged(1), -1);
    Check.evening(x, "feed a 2 ; hour ; bank ; hour ; feed b 1 ;");
    due("ASH by the second hour", x.judged(1), 3);
    Check.evening(x, "tongs b 3 ; tongs b 2 ; tongs a 0 ; hour ;");
    due("to where one lies", x.judged(0), 0);
    // Apart: 20 to ASH, 10 + 2 - 3; c beside b: 0 + 2 + 2 - 3.
    due("carried", x.judged(2), 10);
  }

  private static void out() {
    EmberLand x = land("ember a coal at 0 heat 20 fuel 9 ; ember b coal at 2 heat 20 fuel 3 ; ember c coal at 8 heat 4 fuel 3 ; "
        + "ember d iron at 11 heat 20 fuel 3 ;");
    due("by its heat", x.out(0), 6);
    due("by its fuel", x.out(1), 3);
    due("never ALIGHT", x.out(2), -1);
    due("iron", x.out(3), -1);
    due("out(4)", x.out(4), -1);
    for (int bad : BAD_EMBERS) {
      due("out(" + bad + ")", x.out(bad), -1);
    }
    for (int i = 0; i < 3; i++) {
      x.hour();
    }
    due("of ASH", x.out(1), -1);
    due("from now", x.out(0), 3);
    x = land("ember a coal at 0 heat 0 fuel 9 ; draught 0 0 0 0 0 0 0 9 ; warms air * 2 ;");
    due("ALIGHT at the 40th", x.out(0), -1);
    due("caught", x.caught(0), 8);
    x = land("ember a coal at 0 heat 0 fuel 9 ; draught 0 0 0 0 0 0 0 0 9 0 ; warms air * 2 ;");
    due("ALIGHT at the 39th", x.out(0), 40);
    due("caught", x.caught(0), 9);
    x = land("ember a coal at 0 heat 5 fuel 9 ;");
    due("now counts", x.out(0), 1);
  }

  private static void lasts() {
    due("nothing", land("").lasts(), 0);
    due("none ALIGHT", land("ember a coal at 0 heat 4 fuel 9 ;").lasts(), 0);
    due("iron", land("ember a iron at 0 heat 20 fuel 9 ;").lasts(), 0);
    due("one", land("ember a coal at 0 heat 20 fuel 9 ;").lasts(), 6);
    due("in a draught", land("ember a coal at 0 heat 10 fuel 9 ; draught 1 ;").lasts(), 3);
    due("for the first time", land("ember a coal at 0 heat 20 fuel 9 ; warms ( glow < 5 ) * 20 ;").lasts(), 1);
    String two = "ember a coal at 0 heat 20 fuel 20 ; ember b coal at 2 heat 0 fuel 20 ; warms ( glow < 5 ) * 20 ;";
    EmberLand x = land(two);
    due("by 40", x.lasts(), 40);
    due("out a", x.out(0), 39);
    due("out b", x.out(1), 40);
    due("last", x.last(), 1);
    x = land(TURNS);
    due("not by 40", x.lasts(), -1);
  }

  private static void last() {
    due("nothing", land("").last(), -1);
    due("never", land("ember a coal at 0 heat 4 fuel 9 ;").last(), -1);
    EmberLand x = land("ember a coal at 0 heat 8 fuel 9 ; ember b coal at 2 heat 20 fuel 9 ; ember c slack at 8 heat 20 fuel 9 ;");
    due("the longest, the first", x.last(), 1);
    due("one alone", land("ember a coal at 0 heat 8 fuel 9 ;").last(), 0);
    x = land("ember a coal at 0 heat 0 fuel 9 ; ember b coal at 2 heat 9 fuel 2 ; draught 0 0 0 0 0 0 0 9 ; warms air * 2 ;");
    due("one that has an OUT", x.last(), 1);
  }

  private static void peakAndAge() {
    EmberLand x = land("ember a coal at 0 heat 10 fuel 9 ; draught 3 5 3 0 ;");
    due("peak", x.peak(), 2);
    due("age", x.age(), 0);
    x.hour();
    due("peak from now", x.peak(), 1);
    due("now, of equal ones", land("ember a iron at 0 heat 10 fuel 9 ; draught 3 ;").peak(), 0);
    x = land("ember a iron at 0 heat 0 fuel 9 ; draught 0 0 0 0 0 0 0 0 9 0 ; warms ( glow * 0 ) + air + ( glow = 9 ) * 10 ;");
    due("of equal ones the first", x.peak(), 10);
    x = land("ember a iron at 0 heat 19 fuel 9 ; ember b iron at 1 heat 20 fuel 9 ; ember c coal at 3 heat 1 fuel 9 ;");
    due("age 2", x.age(), 2);
    x.hour();
    due("age 1", x.age(), 1);
    x = land("ember a iron at 0 heat 0 fuel 9 ; warms glow + 1 ;");
    due("the 20th", x.peak(), 20);
    due("the 40th", land("ember a iron at 0 heat 0 fuel 9 ; draught 0 1 ; warms glow + air ;").peak(), 40);
    due("age of 39", land("ember a iron at 0 heat 19 fuel 9 ; ember b coal at 3 heat 20 fuel 1 ;").age(), 1);
    due("age of 38", land("ember a iron at 0 heat 19 fuel 9 ; ember b coal at 3 heat 19 fuel 1 ;").age(), 1);
    due("age of 40", land("ember a iron at 0 heat 20 fuel 9 ; ember b coal at 3 heat 20 fuel 1 ;").age(), 2);
  }

  private static void move() {
    EmberLand x = land("ember a coal at 0 heat 20 fuel 20 ; ember b coal at 11 heat 20 fuel 20 ;");
    due("alone", x.lasts(), 6);
    due("move(2)", x.move(2), -1);
    due("move(-1)", x.move(-1), -1);
    int e = x.move(0);
    int c = x.move(1);
    due("the first EMBER", e, 0);
    due("the first CELL: under b, with which it falls", c, 7);
    due("nothing is done", x.count(10), 0);
    x.tongs(e, c);
    due("longer", x.lasts(), 16);
    due("none is better then", x.move(1), -1);
    // b in a draught loses 1 alone, and gains 1 beside a, which keeps its heat by it: both burn out at the 20th.
    x = land("ember a coal at 1 heat 10 fuel 20 ; ember b coal at 3 heat 10 fuel 20 ; draught 2 ;");
    due("alone in a draught", x.lasts(), 6);
    due("the first EMBER", x.move(0), 0);
    due("the first CELL", x.move(1), 2);
    x = land("ember a iron at 0 heat 0 fuel 20 ; ember b iron at 2 heat 0 fuel 20 ; ember c coal at 1 heat 20 fuel 20 ; "
        + "ember s slack at 3 heat 0 fuel 20 ; ember t slack at 5 heat 0 fuel 20 ; warms glow - 1 - 2 * ( glow = 20 ) * ( near = 0 ) ;");
    due("none: the slack keeps them apart", x.move(0), -1);
    // d and its slack s: the slack is to go, or d.
    x = land("ember a iron at 0 heat 0 fuel 20 ; ember b iron at 2 heat 0 fuel 20 ; ember c coal at 1 heat 20 fuel 20 ; "
        + "ember s slack at 5 heat 0 fuel 20 ; ember d coal at 6 heat 20 fuel 20 ; draught 1 ;");
    checkMove(x);
    x = land("ember a coal at 11 heat 20 fuel 20 ; ember b coal at 1 heat 20 fuel 20 ; ember c coal at 8 heat 20 fuel 20 ; draught 1 ;");
    checkMove(x);
    due("nothing", land("").move(0), -1);
    due("none is better", land("ember a coal at 0 heat 20 fuel 20 ;").move(0), -1);
    due("none is better", land("ember a coal at 0 heat 20 fuel 20 ;").move(1), -1);
    due("for ever none is better", land(TURNS).move(0), -1);
  }

  /** MOVE against all that TONGS can do, each tried and undone. */
  private static void checkMove(EmberLand x) {
    int best = -1;
    int most = x.lasts() < 0 ? 41 : x.lasts();
    for (int i = 0; i < 7 * 12; i++) {
      if (x.tongs(i / 12, i % 12)) {
        int hours = x.lasts() < 0 ? 41 : x.lasts();
        if (hours > most) {
          most = hours;
          best = i;
        }
        x.undo();
      }
    }
    due("MOVE, the EMBER", x.move(0), best < 0 ? -1 : best / 12);
    due("MOVE, the CELL", x.move(1), best < 0 ? -1 : best % 12);
  }

  private static void banks() {
    due("nothing", land("").banks(), 0);
    EmberLand x = land("ember a coal at 0 heat 10 fuel 20 ; draught 1 ;");
    // 10 8 6 4: 3 hours; banked at 0: 10 7 4: 2; at 1: 10 8 5 2: 3.
    due("of equal ones the first", x.banks(), 1);
    x = land("ember a coal at 0 heat 10 fuel 20 ; draught 3 ;");
    due("never is best", x.banks(), -1);
    x.bank();
    due("to end it now", x.banks(), 0);
    x = land("ember a coal at 0 heat 10 fuel 20 ; warms glow - air ; draught 0 0 0 5 9 ;");
    due("now", x.banks(), 0);
    String law = "ember a coal at 0 heat 20 fuel 20 ; draught 1 ; warms ( air = 1 ) * ( glow - 1 ) + ( air = 0 ) * ( glow < ";
    // Banked, it keeps a heat below 9, or 8, and loses a greater one; it has 8 at the twelfth.
    due("at the 12th", land(law + "9 ) * glow ;").banks(), 12);
    due("not at the 13th", land(law + "8 ) * glow ;").banks(), -1);
    due("for ever, of equal ones the first", land(TURNS).banks(), 0);
    due("nothing is done", x.count(4) + x.count(10), 0);
  }

  private static void stir() {
    due("nothing", land("").stir(1), -1);
    EmberLand x = land("ember a coal at 0 heat 19 fuel 9 ; ember b coal at 2 heat 3 fuel 9 ; draught 3 ;");
    due("20 at most", x.stir(1), 1);
    // With 6 b would burn out, too; with 3 it stays.
    due("behind 12 HOURS", x.stir(12), 0);
    due("stir(0)", x.stir(0), -1);
    due("stir(13)", x.stir(13), -1);
    due("stir(-1)", x.stir(-1), -1);
    due("nothing is done", x.count(5) + x.count(10), 22);
    due("of equal ones the first", land("ember a iron at 0 heat 3 fuel 9 ; ember b iron at 2 heat 3 fuel 9 ;").stir(1), 0);
    x = land("ember a coal at 0 heat 20 fuel 1 ; ember b iron at 2 heat 20 fuel 9 ;");
    x.hour();
    due("not ASH", x.stir(1), 1);
    due("all cold", land("ember a iron at 0 heat 0 fuel 9 ; ember b iron at 2 heat 0 fuel 9 ;").stir(12), 0);
    x = land("ember a coal at 0 heat 2 fuel 9 ; ember b iron at 2 heat 2 fuel 9 ; warms glow ;");
    due("a burns for 9", x.stir(8), 0);
    due("and no longer", x.stir(9), 1);
    x = land("ember a iron at 0 heat 17 fuel 9 ; ember b iron at 2 heat 8 fuel 9 ; draught 3 ; warms glow + air ;");
    due("in a draught 20 at most", x.stir(1), 1);
    x = land("ember a iron at 2 heat 9 fuel 9 ; ember b coal at 0 heat 2 fuel 9 ; ember c coal at 1 heat 0 fuel 9 ; warms glow + near * 3 ;");
    due("b would warm the rest", x.stir(1), 1);
  }

  private static void kindle() {
    due("nothing", land("").kindle(), 0);
    due("a chain", land(CHAIN).kindle(), 1);
    due("one falls on it", land(CHAIN + "ember e coal at 11 heat 0 fuel 5 ;").kindle(), 1);
    due("one off", land("ember a coal at 0 heat 0 fuel 9 ; ember b coal at 2 heat 0 fuel 9 ; warms near * 10 ;").kindle(), 3);
    due("iron between", land("ember a coal at 0 heat 0 fuel 9 ; ember b iron at 1 heat 20 fuel 9 ; "
        + "ember c coal at 2 heat 0 fuel 9 ; warms near * 10 ;").kindle(), 5);
    due("one is ALIGHT", land("ember a coal at 0 heat 0 fuel 9 ; ember b coal at 1 heat 20 fuel 9 ; warms near * 10 ;").kindle(), 0);
    due("iron alone", land("ember a iron at 0 heat 0 fuel 9 ;").kindle(), 0);
    due("each by itself", land("ember a coal at 0 heat 0 fuel 9 ; ember b coal at 1 heat 0 fuel 9 ; ember c coal at 2 heat 0 fuel 9 ; "
        + "ember d coal at 3 heat 0 fuel 9 ; ember e coal at 4 heat 0 fuel 9 ; ember f coal at 5 heat 0 fuel 9 ; "
        + "ember g coal at 6 heat 0 fuel 9 ; warms 0 ;").kindle(), 127);
    // c, between a and b, catches by both alone; a or b by c.
    due("the fewest, not the least", land("ember a coal at 0 heat 0 fuel 4 ; ember b coal at 2 heat 0 fuel 4 ; "
        + "ember c coal at 1 heat 0 fuel 20 ; warms near * 10 * ( left < 5 ) + ( 1 < near ) * 10 ;").kindle(), 4);
    due("by the draught", land("ember a coal at 0 heat 0 fuel 4 ; draught 0 0 9 ; warms air ;").kindle(), 0);
    due("at the 12th", land("ember a coal at 0 heat 8 fuel 9 ; catches 20 ; warms glow + 1 ;").kindle(), 0);
    due("at the 13th", land("ember a coal at 0 heat 7 fuel 9 ; catches 20 ; warms glow + 1 ;").kindle(), 1);
    EmberLand x = land("ember a coal at 0 heat 20 fuel 1 ; ember b coal at 2 heat 0 fuel 9 ; warms 0 ;");
    x.hour();
    due("ASH is left out", x.kindle(), 2);
    due("nothing is done", x.count(5), 0);
  }

  private static void save() {
    String three = "ember a coal at 0 heat 20 fuel 20 ; ember b coal at 1 heat 0 fuel 20 ; ember c coal at 2 heat 0 fuel 20 ; warms near * 10 ; ";
    EmberLand x = land(three + "ember d iron at 3 heat 9 fuel 20 ;");
    due("is ALIGHT now", x.save(0), -1);
    due("a or b", x.save(2), 1);
    due("iron", x.save(3), 0);
    due("nothing is done", x.count(6), 80);
    due("save(4)", x.save(4), -1);
    for (int bad : BAD_EMBERS) {
      due("save(" + bad + ")", x.save(bad), -1);
    }
    x = land("ember a coal at 0 heat 20 fuel 20 ; ember b coal at 1 heat 0 fuel 20 ; ember c coal at 2 heat 20 fuel 20 ; warms near * 10 ;");
    due("from both sides", x.save(1), 5);
    x = land("ember a coal at 0 heat 8 fuel 9 ; ember b coal at 2 heat 0 fuel 9 ; catches 20 ; warms glow + 1 ;");
    due("at the 12th", x.save(0), -1);
    x = land("ember a coal at 0 heat 7 fuel 9 ; ember b coal at 2 heat 0 fuel 9 ; catches 20 ; warms glow + 1 ;");
    due("at the 13th", x.save(0), 0);
    x = land("ember a coal at 0 heat 20 fuel 1 ; ember b coal at 2 heat 0 fuel 9 ; warms 0 ;");
    x.hour();
    due("of ASH", x.save(0), -1);
    // a lies on iron, out of reach of c; without iron it would fall beside it.
    x = land("ember a coal at 4 heat 0 fuel 9 ; ember b iron at 0 heat 0 fuel 9 ; ember c coal at 1 heat 20 fuel 9 ; warms near * 10 ;");
    due("iron keeps it", x.save(0), 0);
    x = land("ember a coal at 0 heat 20 fuel 9 ; ember b coal at 2 heat 20 fuel 9 ; ember c coal at 1 heat 0 fuel 9 ; "
        + "ember d coal at 5 heat 0 fuel 9 ; warms near * 10 ;");
    due("the fewest, not the least", x.save(3), 4);
    due("by the draught", land("ember a coal at 0 heat 0 fuel 4 ; draught 0 0 9 ; warms air ;").save(0), -1);
  }

  private static void tellAndWhich() {
    EmberLand x = land(CHAIN);
    due("all", x.which(), 15);
    due("b in an hour", x.tell(1, 1, true), true);
    due("a or c", x.which(), 5);
    due("not d in an hour", x.tell(3, 1, false), true);
    due("a", x.which(), 1);
    due("a, too", x.tell(0, 12, true), true);
    due("a still", x.which(), 1);
    due("told", x.count(9), 3);
    due("not so", x.tell(0, 0, false), true);
    due("none", x.which(), 0);
    due("no look then", x.look(1), -1);
    due("hours -1", x.tell(0, -1, true), false);
    due("hours 13", x.tell(0, 13, true), false);
    due("ember 4", x.tell(4, 1, true), false);
    for (int bad : BAD_EMBERS) {
      due("tell(" + bad + ", ..)", x.tell(bad, 1, true), false);
    }
    due("the fifth", x.tell(0, 0, true), true);
    due("the sixth", x.tell(0, 0, true), true);
    due("a seventh", x.tell(0, 0, true), false);
    due("told", x.count(9), 6);
    due("nothing to be undone", x.count(10), 0);
    x = land(CHAIN);
    x.tell(0, 12, true);
    due("behind 12 HOURS", x.which(), 5);
    x.bank();
    due("as it is now", x.which(), 5);
    x.hour();
    due("from now", x.which(), 5);
    x.tongs(1, 11);
    due("from now: a is by itself", x.which(), 0);
    x = land("ember a coal at 0 heat 0 fuel 9 ; ember b coal at 2 heat 0 fuel 9 ; draught 3 ; catches 20 ;");
    x.tell(1, 4, true);
    due("in a draught", x.which(), 2);
    due("in a draught", x.look(2), -1);
    x = land("ember a iron at 0 heat 0 fuel 9 ; ember b coal at 1 heat 20 fuel 1 ; ember c coal at 2 heat 0 fuel 9 ; warms glow - 1 ;");
    due("iron, too", x.which(), 7);
    x.hour();
    due("not ASH", x.which(), 5);
    due("of ASH", x.tell(1, 3, false), true);
    due("so it is", x.which(), 5);
    due("of c", x.tell(2, 3, false), true);
    due("iron", x.which(), 1);
    due("of ASH", x.tell(1, 0, true), true);
    due("by none", x.which(), 0);
  }

  private static void look() {
    EmberLand x = land(CHAIN);
    due("now: each parts one", x.look(0), 0);
    due("in an hour: b parts two", x.look(1), 1);
    due("in 12: each parts two", x.look(12), 0);
    due("look(-1)", x.look(-1), -1);
    due("look(13)", x.look(13), -1);
    x.tell(1, 1, true);
    // a or c: in an hour d tells.
    due("of a and c", x.look(1), 3);
    due("of a and c, now", x.look(0), 0);
    x.tell(3, 1, true);
    due("of c alone", x.look(1), -1);
    due("nothing", land("").look(1), -1);
    x = land("ember a coal at 0 heat 20 fuel 9 ; ember b coal at 2 heat 20 fuel 9 ;");
    due("none parts them", x.look(0), -1);
    x = land("ember a coal at 0 heat 0 fuel 9 ; ember b coal at 2 heat 0 fuel 9 ; warms glow ;");
    due("behind 12 HOURS: ASH both", x.look(12), -1);
    due("behind 8", x.look(8), 0);
  }

  private static void chance() {
    EmberLand x = land("ember a coal at 0 heat 5 fuel 20 ; ember b iron at 2 heat 20 fuel 9 ; ember c coal at 11 heat 20 fuel 20 ; draught 3 ;");
    due("one hour", x.chance(0, 1, 7), 700000);
    due("two", x.chance(0, 2, 5), 250000);
    due("six", x.chance(0, 6, 9), 531441);
    due("six", x.chance(0, 6, 1), 1);
    due("never", x.chance(0, 3, 0), 0);
    due("always", x.chance(0, 3, 10), 1000000);
    due("iron", x.chance(1, 1, 5), 0);
    due("however", x.chance(2, 5, 5), 1000000);
    due("hours 0", x.chance(0, 0, 5), -1);
    due("hours 7", x.chance(0, 7, 5), -1);
    due("odds -1", x.chance(0, 1, -1), -1);
    due("odds 11", x.chance(0, 1, 11), -1);
    for (int bad : BAD_EMBERS) {
      due("chance(" + bad + ", 1, 5)", x.chance(bad, 1, 5), -1);
    }
    x.bank();
    due("banked", x.chance(0, 1, 10), 0);
    x.bank();
    due("nothing is done", x.count(2), 0);
    x = land("ember a coal at 0 heat 6 fuel 20 ; draught 3 0 5 ;");
    // 6, then 6 or 3; then 3 or 0; then 5 or 0, or 2 or 0: by both.
    due("as told hour by hour", x.chance(0, 3, 3), 90000);
    x = land("ember a coal at 0 heat 20 fuel 1 ;");
    x.hour();
    due("of ASH", x.chance(0, 1, 5), 0);
  }

  private static void touching() {
    // Rows from below: a b . c / . d e f / g . . .
    EmberLand x = land("ember a coal at 0 heat 0 fuel 1 ; ember b iron at 1 heat 0 fuel 1 ; ember c coal at 3 heat 9 fuel 1 ; "
        + "ember d coal at 5 heat 0 fuel 1 ; ember e slack at 6 heat 0 fuel 1 ; ember f coal at 7 heat 0 fuel 1 ; ember g coal at 8 heat 0 fuel 1 ;");
    int[] touch = {2, 1 + 8, 32, 2 + 16, 8 + 32, 4 + 16, 0};
    for (int e = 0; e < 7; e++) {
      due("touch(" + e + ")", x.touch(e), touch[e]);
      due("hall(" + e + ")", x.hall(e), e == 6 ? 64 : 63);
    }
    due("halls", x.halls(), 2);
    due("tower", x.tower(), 2);
    due("lone", x.lone(), 64);
    for (int bad : BAD_EMBERS) {
      due("touch(" + bad + ")", x.touch(bad), -1);
      due("hall(" + bad + ")", x.hall(bad), -1);
    }
    due("c is ASH", x.hour(), 4);
    due("touch of ASH", x.touch(2), -1);
    due("hall of ASH", x.hall(2), -1);
    // Now a b e f / g d . .
    due("all but ASH", x.hall(0), 127 - 4);
    due("one hall", x.halls(), 1);
    due("lone", x.lone(), 0);
    x.tongs(0, 11);
    due("a is lone", x.lone(), 1);
    due("g lies on none", x.tower(), 2);
    due("halls", x.halls(), 2);
    EmberLand y = land("ember a coal at 3 heat 0 fuel 1 ; ember b coal at 4 heat 0 fuel 1 ; ember c coal at 11 heat 0 fuel 1 ; ember d coal at 8 heat 0 fuel 1 ;");
    due("no row goes round", y.touch(0), 0);
    due("b and d", y.touch(1), 8);
    due("halls", y.halls(), 3);
    due("tower from below", y.tower(), 1);
    due("lone", y.lone(), 5);
    y.tongs(0, 0);
    due("a tower of three", y.tower(), 3);
    due("nothing: halls", land("").halls(), 0);
    due("nothing: tower", land("").tower(), 0);
    due("nothing: lone", land("").lone(), 0);
    due("new: touch", new EmberLand().touch(0), -1);
    EmberLand z = land("ember a coal at 8 heat 0 fuel 1 ; ember b coal at 4 heat 0 fuel 1 ; ember c coal at 0 heat 0 fuel 1 ; "
        + "ember d coal at 1 heat 0 fuel 1 ; ember e coal at 2 heat 0 fuel 1 ; ember f coal at 6 heat 0 fuel 1 ; ember g coal at 10 heat 0 fuel 1 ;");
    due("six touches off", z.hall(0), 127);
    due("six touches off", z.hall(6), 127);
    due("one hall", z.halls(), 1);
  }

  private static void alightCaughtAsh() {
    EmberLand x = land("ember a coal at 0 heat 20 fuel 3 ; ember b coal at 1 heat 3 fuel 9 ; ember c iron at 3 heat 20 fuel 9 ; draught 2 ;");
    // b: 3 4 5 6, then by itself 5 4.
    int[] alight = {1, 1, 3, 2, 2, 0, 0};
    int[] ash = {0, 0, 0, 1, 1, 1, 1};
    for (int h = 0; h < alight.length; h++) {
      due("alight(" + h + ")", x.alight(h), alight[h]);
      due("ash(" + h + ")", x.ash(h), ash[h]);
    }
    due("alight(40)", x.alight(40), 0);
    due("alight(41)", x.alight(41), -1);
    due("alight(-1)", x.alight(-1), -1);
    due("ash(40)", x.ash(40), 1);
    due("ash(41)", x.ash(41), -1);
    due("ash(-1)", x.ash(-1), -1);
    due("caught(0)", x.caught(0), 0);
    due("caught(1)", x.caught(1), 2);
    due("caught(2)", x.caught(2), -1);
    due("caught(3)", x.caught(3), -1);
    for (int bad : BAD_EMBERS) {
      due("caught(" + bad + ")", x.caught(bad), -1);
    }
    for (int i = 0; i < 3; i++) {
      x.hour();
    }
    due("ash now", x.ash(0), 1);
    due("caught of ASH", x.caught(0), -1);
    due("alight now", x.alight(0), 2);
    x = land("ember a coal at 0 heat 0 fuel 9 ; catches 20 ; draught 1 0 ; warms glow + air ;");
    due("at the 39th", x.caught(0), 39);
    x.hour();
    due("from now", x.caught(0), 38);
    x = land("ember a coal at 0 heat 0 fuel 9 ; catches 20 ; draught 0 1 ; warms glow + air ;");
    due("at the 40th", x.caught(0), 40);
    x = land("ember a coal at 0 heat 0 fuel 9 ; catches 20 ; draught 0 0 1 ; warms glow + air ;");
    due("not by 40", x.caught(0), -1);
  }

  private static void falls() {
    EmberLand x = land("ember a stick at 0 heat 20 fuel 2 ; ember b coal at 4 heat 20 fuel 1 ; ember c coal at 8 heat 0 fuel 9 ; "
        + "ember d coal at 5 heat 0 fuel 9 ; ember e coal at 9 heat 0 fuel 9 ; ember f coal at 2 heat 0 fuel 9 ; ember g coal at 6 heat 0 fuel 9 ;");
    due("not ASH, not what lies on one", x.falls(), 4 + 8 + 16);
    due("nothing is done", x.count(2), 0);
    x.hour();
    due("then", x.falls(), 4);
    x.hour();
    due("none", x.falls(), 0);
    due("the first", land("ember a coal at 6 heat 0 fuel 9 ;").falls(), 1);
    due("nothing", land("").falls(), 0);
  }

  private static void spare() {
    EmberLand x = land(TURNS);
    due("for ever, and not at all", x.spare(0), 41);
    due("for ever, and an hour", x.spare(1), 40);
    due("for ever, and two", x.spare(2), 39);
    x = land("ember a coal at 0 heat 20 fuel 20 ; ember b coal at 1 heat 20 fuel 20 ; ember s slack at 5 heat 0 fuel 20 ; draught 1 ;");
    due("slack: less long", x.spare(2), -4);
    due("spare(3)", x.spare(3), -1000);
    for (int bad : BAD_EMBERS) {
      due("spare(" + bad + ")", x.spare(bad), -1000);
    }
    due("nothing is done", x.count(6), 60);
    x = land("ember a coal at 0 heat 20 fuel 9 ; ember b coal at 2 heat 8 fuel 9 ; ember c coal at 8 heat 20 fuel 1 ;");
    due("none the longer", x.spare(1), 0);
    due("by 4", x.spare(0), 4);
    x.hour();
    due("of ASH", x.spare(2), -1000);
  }

  private static void warmest() {
    due("nothing", land("").warmest(), -1);
    due("no heat", land("ember a coal at 0 heat 0 fuel 9 ;").warmest(), -1);
    due("the first", land("ember a coal at 5 heat 1 fuel 9 ;").warmest(), 1);
    due("the first of all", land("ember a coal at 1 heat 1 fuel 9 ;").warmest(), 0);
    due("the last of all", land("ember a coal at 10 heat 1 fuel 9 ; ember b coal at 7 heat 1 fuel 9 ; ember c coal at 6 heat 0 fuel 9 ;").warmest(), 11);
    due("iron warms", land("ember a iron at 11 heat 1 fuel 9 ;").warmest(), 7);
    due("two together", land("ember a coal at 0 heat 5 fuel 9 ; ember b coal at 5 heat 4 fuel 9 ; ember c iron at 11 heat 8 fuel 9 ;").warmest(), 1);
    due("none where one lies", land("ember a coal at 0 heat 5 fuel 9 ; ember b coal at 5 heat 4 fuel 9 ; "
        + "ember c coal at 1 heat 0 fuel 9 ; ember d coal at 7 heat 9 fuel 9 ;").warmest(), 6);
  }

  private static long rests(int both, int loses, int gets, int what) {
    try {
      return new EmberLand().rests(both, loses, gets, what);
    } catch (NoSuchElementException none) {
      return -99;
    }
  }

  private static void dueRests(int both, int loses, int gets, int... rests) {
    String game = "rests(" + both + ", " + loses + ", " + gets + ", ";
    due(game + "NONE)", rests(both, loses, gets, -1), rests.length);
    for (int i = 0; i < rests.length; i++) {
      due(game + i + ")", rests(both, loses, gets, i), rests[i]);
    }
    due(game + "one more)", rests(both, loses, gets, rests.length), -99);
    due(game + "-2)", rests(both, loses, gets, -2), -99);
  }

  private static void rests() {
    dueRests(5, 2, 3, 0, 3);
    dueRests(2, 1, 5, 0);
    dueRests(0, 0, 0, 0, 1, 2, 3);
    dueRests(2, 0, 5, 0, 1, 2);
    dueRests(3, 1, 3, 0, 3);
    dueRests(9, 0, 0, 0, 3);
    dueRests(0, 9, 9, 0);
    int[][] wrong = {{-1, 0, 0}, {10, 0, 0}, {0, -1, 0}, {0, 10, 0}, {0, 0, -1}, {0, 0, 10}};
    for (int[] w : wrong) {
      due("wrong: how many", rests(w[0], w[1], w[2], -1), -99);
      due("wrong: the first", rests(w[0], w[1], w[2], 0), -99);
    }
  }

  private static void winters() {
    EmberLand x = land("ember a coal at 0 heat 20 fuel 9 ; ember b stick at 1 heat 9 fuel 4 ; ember c slack at 5 heat 6 fuel 3 ; draught 2 1 ;");
    due("seed -1", x.winters(-1, 5, 0), -1);
    due("seed 10000", x.winters(10000, 5, 0), -1);
    due("hours 0", x.winters(1, 0, 0), -1);
    due("hours 100", x.winters(1, 100, 0), -1);
    due("what -1", x.winters(1, 5, -1), -1);
    due("what 3", x.winters(1, 5, 3), -1);
    due("seed 9999, 99 hours", x.winters(9999, 99, 1), 0);
    due("all is as ahead", x.count(2) + x.count(10) + x.count(7), 0);
    String irons = "ember a iron at 0 heat 0 fuel 1 ; ember b iron at 1 heat 0 fuel 1 ; ember c iron at 2 heat 0 fuel 1 ; "
        + "ember d iron at 3 heat 0 fuel 1 ; ember e iron at 4 heat 0 fuel 1 ; warms ";
    EmberLand pokes = land(irons + "glow ;");
    EmberLand feeds = land(irons + "left ;");
    // Seed, hours, the heat of 3 a poke, the fuel of all; reckoned apart from this program.
    int[][] drawn = {{1, 1, 0, 5}, {1, 3, 0, 7}, {1, 9, 6, 11}, {2, 5, 3, 18}, {3, 8, 6, 21}, {7, 12, 9, 19}, {9999, 10, 6, 14}};
    for (int[] d : drawn) {
      due("heat by pokes, seed " + d[0], pokes.winters(d[0], d[1], 2), d[2]);
      due("fuel by feeding, seed " + d[0], feeds.winters(d[0], d[1], 2), d[3]);
    }
    due("no iron is ALIGHT", feeds.winters(1, 99, 1), 0);
    due("no iron is ASH", feeds.winters(1, 99, 0), 0);
    x = land("ember a coal at 0 heat 20 fuel 1 ; ember b coal at 2 heat 20 fuel 20 ; warms glow ;");
    due("ASH, how many", x.winters(6, 1, 0), 1);
    due("ALIGHT, how many", x.winters(6, 1, 1), 1);
    x.hour();
    due("ASH from now on", x.winters(6, 1, 0), 0);
    due("nothing", land("").winters(1, 9, 2), 0);
    // Seed 0 draws 0, a poke, and again 0.
    x = land("ember a coal at 0 heat 2 fuel 20 ; draught 5 ;");
    due("one EMBER, in a draught", x.winters(0, 1, 2), 7);
    due("one EMBER, ALIGHT", x.winters(0, 1, 1), 1);
  }

  private static void mark() {
    EmberLand x = land("ember a coal at 4 heat 20 fuel 1 ; ember b coal at 1 heat 9 fuel 9 ; draught 3 ;");
    for (int m = 0; m < 4; m++) {
      due("none laid " + m, x.mark(m, true), false);
    }
    due("mark(4, false)", x.mark(4, false), false);
    due("mark(-1, false)", x.mark(-1, false), false);
    due("mark(4, true)", x.mark(4, true), false);
    due("mark(-1, true)", x.mark(-1, true), false);
    due("lay 0", x.mark(0, false), true);
    x.bank();
    x.tell(1, 1, true);
    x.tongs(1, 6);
    x.fuel(1, 2);
    due("lay 3", x.mark(3, false), true);
    due("UNDO stays", x.count(10), 3);
    x.tell(1, 2, false);
    x.hour();
    Check.evening(x, "hour ;");
    due("back to 0", x.mark(0, true), true);
    int[] want = {2, 5, 0, 3, 0, 29, 10, 0, 1, 0, 0, 0};
    for (int i = 0; i < 12; i++) {
      due("at 0: count(" + i + ")", x.count(i), want[i]);
    }
    due("at 0: cell(1)", x.cell(1), 1);
    due("at 0: nothing undone", x.undo(), false);
    due("back to 3", x.mark(3, true), true);
    int[] then = {2, 5, 0, 3, 1, 29, 12, 0, 1, 1, 0, 0};
    for (int i = 0; i < 12; i++) {
      due("at 3: count(" + i + ")", x.count(i), then[i]);
    }
    due("at 3: cell(6)", x.cell(6), 1);
    x.hour();
    due("again to 3", x.mark(3, true), true);
    due("again at 3", x.count(2), 0);
    x.hour();
    due("lay 3 anew", x.mark(3, false), true);
    x.mark(0, true);
    due("to the new 3", x.mark(3, true), true);
    due("its hour", x.count(2), 1);
    due("its ASH", x.count(7), 1);
    x = land(CHAIN);
    x.mark(0, false);
    x.tell(1, 1, true);
    x.mark(1, false);
    x.mark(0, true);
    x.tell(0, 2, false);
    due("told anew", x.which(), 10);
    x.mark(1, true);
    due("what was TOLD there", x.which(), 5);
    x.hour();
    due("2 is not laid", x.mark(2, true), false);
    due("not laid: all stays", x.count(2), 1);
  }

  private static void count() {
    EmberLand x = land("ember a coal at 0 heat 20 fuel 1 ; ember b stick at 1 heat 3 fuel 7 ; ember c iron at 2 heat 1 fuel 2 ; draught 4 6 ; catches 3 ;");
    x.hour();
    x.bank();
    x.tell(0, 1, true);
    Check.evening(x, "hour ; bank ;");
    Check.feed(x, "abc");
    // b: 3 + 2 + 4 - 3; c: 1 + 2 + 4 - 3.
    int[] want = {3, 3, 1, 6, 1, 10, 7, 1, 2, 1, 2, 3};
    for (int i = 0; i < 12; i++) {
      due("count(" + i + ")", x.count(i), want[i]);
    }
    due("count(12)", x.count(12), -1);
    due("count(-1)", x.count(-1), -1);
    due("count(MAX)", x.count(Integer.MAX_VALUE), -1);
    due("count(MIN)", x.count(Integer.MIN_VALUE), -1);
  }
}

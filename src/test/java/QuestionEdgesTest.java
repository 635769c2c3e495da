import java.math.BigInteger;
import java.util.NoSuchElementException;

/** The edges of "Terms" from OUT to MARKS, each sentence by itself. */
public final class QuestionEdgesTest {
  private static final Check CHECK = new Check();
  /** Four in a row below, of which just those are ALIGHT beside which one was. */
  private static final String CHAIN = ember("a", "coal", 0, 0, 20) + ember("b", "coal", 1, 0, 20) + ember("c", "coal", 2, 0, 20)
      + ember("d", "coal", 3, 0, 20) + "warms near * 10 ; ";
  private static final String TURN_LAW = "warms ( glow = 0 ) + ( glow = 1 ) * 20 ; ";

  public static void main(String[] args) {
    nothingDone();
    out();
    lasts();
    last();
    peakAndAge();
    move();
    banks();
    stir();
    kindle();
    save();
    told();
    which();
    look();
    chance();
    touching();
    caught();
    falls();
    spare();
    loneAndWarmest();
    rests();
    draws();
    winters();
    marks();
    CHECK.end();
  }

  private static void of(String sentence) {
    CHECK.of(sentence);
  }

  private static void due(String call, long got, long want) {
    CHECK.due(call, got, want);
  }

  private static void due(String call, boolean got, boolean want) {
    CHECK.due(call, got, want);
  }

  private static EmberLand land(String text) {
    return CHECK.land(text);
  }

  private static String ember(String name, String kind, int cell, int heat, int fuel) {
    return Check.ember(name, kind, cell, heat, fuel);
  }

  /** Three of which one is ALIGHT in turn: a in the hours 0, 3 .., b in 1, 4 .., c in 2, 5 ..; each as often as its fuel. */
  private static String turns(int a, int b, int c) {
    return ember("a", "coal", 0, 20, a) + ember("b", "coal", 2, 1, b) + ember("c", "coal", 8, 0, c) + TURN_LAW;
  }

  /** One with this fuel that is ALIGHT in the hours behind those of a draught of 9; period hours, the 9 at one of them. */
  private static String pulse(int period, int at, int fuel) {
    StringBuilder s = new StringBuilder(ember("p", "coal", 0, 0, fuel)).append("warms air ; draught ");
    for (int i = 0; i < period; i++) {
      s.append(i == at ? "9 " : "0 ");
    }
    return s.append("; ").toString();
  }

  private static int askAll(EmberLand x) {
    int sum = x.lasts() + x.last() + x.peak() + x.age() + x.move(0) + x.move(1) + x.banks() + x.stir(1) + x.stir(12) + x.kindle() + x.which();
    sum += x.look(0) + x.look(12) + x.halls() + x.tower() + x.alight(40) + x.ash(40) + x.falls() + x.lone() + x.warmest();
    for (int e = 0; e < 4; e++) {
      sum += x.out(e) + x.save(e) + x.chance(e, 6, 5) + x.touch(e) + x.hall(e) + x.caught(e) + x.spare(e);
    }
    for (int w = 0; w < 3; w++) {
      sum += x.winters(1, 99, w) + x.judged(w);
    }
    return sum;
  }

  private static void nothingDone() {
    of("(HOURS going by, nothing else being done.)");
    EmberLand x = land(ember("a", "coal", 8, 20, 9) + ember("b", "stick", 4, 9, 9) + ember("c", "slack", 1, 6, 3) + ember("d", "coal", 3, 20, 1)
        + "draught 1 2 ;");
    x.hour();
    x.bank();
    x.tell(0, 1, true);
    Check.evening(x, "hour ; poke a ; bank ;");
    String before = Check.state(x);
    int answers = askAll(x);
    CHECK.due("all is as ahead", Check.state(x), before);
    due("the same answers again", askAll(x), answers);
    x.undo();
    due("the bank is undone", x.count(4), 0);
  }

  private static void out() {
    of("OUT of an EMBER: behind how many HOURS (0 to 40) it is ALIGHT no more, nor then any more up to the 40th, if it was at all (now counts).");
    due("now alone", land(ember("a", "coal", 0, 5, 9)).out(0), 1);
    due("never", land(ember("a", "coal", 0, 4, 9)).out(0), -1);
    due("iron", land(ember("a", "iron", 0, 20, 9)).out(0), -1);
    due("by its fuel", land(ember("a", "coal", 0, 20, 20) + "warms glow ;").out(0), 20);
    due("a stick's", land(ember("a", "stick", 0, 20, 20) + "warms glow ;").out(0), 10);
    due("in the hour 1 alone", land(pulse(12, 0, 1)).out(0), 2);
    due("in 3 and 7", land(pulse(4, 2, 2)).out(0), 8);
    due("in 9, 19, 29, 39", land(pulse(10, 8, 20)).out(0), 40);
    due("in 10, 20, 30, 40", land(pulse(10, 9, 20)).out(0), -1);
    due("in 10, 20, 30", land(pulse(10, 9, 3)).out(0), 31);
    due("in 8, 19, 30, 41", land(pulse(11, 7, 20)).out(0), 31);
    EmberLand x = land(pulse(11, 7, 20));
    x.hour();
    due("an HOUR later in 40, too", x.out(0), -1);
    x = land(pulse(10, 9, 20));
    x.hour();
    due("an HOUR later up to 39", x.out(0), 40);
    x = land(ember("a", "coal", 0, 20, 1));
    due("one HOUR", x.out(0), 1);
    x.hour();
    due("of ASH", x.out(0), -1);
  }

  private static void lasts() {
    of("LASTS: behind how many HOURS (0 to 40) none is ALIGHT for the first time.");
    due("without EMBERS", land("").lasts(), 0);
    due("none now, one in the next", land(pulse(12, 0, 9)).lasts(), 0);
    due("now alone", land(ember("a", "coal", 0, 5, 9)).lasts(), 1);
    due("for the first time", land(ember("a", "coal", 0, 20, 9) + "warms ( glow < 5 ) * 20 ;").lasts(), 1);
    due("39", land(turns(13, 13, 13)).lasts(), 39);
    due("40", land(turns(14, 13, 13)).lasts(), 40);
    due("41: not by 40", land(turns(14, 14, 13)).lasts(), -1);
    EmberLand x = land(turns(14, 14, 13));
    x.hour();
    due("40 from then", x.lasts(), 40);
    x.hour();
    due("39 from then", x.lasts(), 39);
    due("for ever", land(turns(20, 20, 20)).lasts(), -1);
  }

  private static void last() {
    of("LAST: which is ALIGHT longest, by OUT; of equal ones the first.");
    due("without EMBERS", land("").last(), -1);
    due("none ever", land(ember("a", "coal", 0, 4, 9) + ember("b", "iron", 2, 20, 9)).last(), -1);
    due("equal: the first", land(ember("a", "coal", 0, 4, 9) + ember("b", "coal", 2, 20, 9) + ember("c", "coal", 8, 20, 9)).last(), 1);
    due("the longest is last told", land(ember("a", "coal", 0, 8, 9) + ember("b", "coal", 2, 9, 9) + ember("c", "coal", 11, 20, 9)).last(), 2);
    due("the longest is first told", land(ember("a", "coal", 0, 20, 9) + ember("b", "coal", 2, 9, 9)).last(), 0);
    due("one of a single hour", land(ember("a", "iron", 0, 5, 9) + ember("b", "coal", 2, 5, 9)).last(), 1);
    // The pulse is ALIGHT in 3 and 7 alone, b for five hours; by OUT the pulse is it.
    String law = "warms air * ( left = 2 or left = 1 ) + glow * ( 2 < left ) ; draught 0 0 9 0 ; ";
    due("by OUT, not by how often", land(ember("p", "coal", 0, 0, 2) + ember("b", "coal", 2, 9, 7) + law).last(), 0);
    // What is ALIGHT at the 40th has no OUT.
    due("one with an OUT", land(pulse(10, 9, 20) + ember("b", "coal", 2, 9, 2)).last(), 1);
    due("none has one", land(pulse(10, 9, 20)).last(), -1);
    due("OUT 40", land(pulse(10, 8, 20) + ember("b", "coal", 2, 9, 9) + ember("c", "coal", 8, 0, 20)).last(), 0);
    EmberLand x = land(ember("a", "coal", 0, 20, 1) + ember("b", "coal", 2, 20, 9));
    x.hour();
    due("not ASH", x.last(), 1);
  }

  private static void peakAndAge() {
    of("PEAK: behind how many (0 to 40) the heat of all is the most; of equal ones the first.");
    due("without EMBERS", land("").peak(), 0);
    due("always less", land(ember("a", "iron", 0, 20, 1)).peak(), 0);
    due("always the same", land(ember("a", "iron", 0, 7, 1) + "warms glow ;").peak(), 0);
    due("in the next", land(ember("a", "iron", 0, 7, 1) + "warms 8 ;").peak(), 1);
    due("20 at the 40th", land(ember("a", "iron", 0, 0, 1) + "draught 0 1 ; warms glow + air ;").peak(), 40);
    due("20 at the 39th", land(ember("a", "iron", 0, 0, 1) + "draught 1 0 ; warms glow + air ;").peak(), 39);
    // The heat is 19 at the 40th, from the 34th on, and 20 at the 41st.
    String late = ember("a", "iron", 0, 1, 1) + "draught 0 0 0 0 1 1 1 1 1 1 0 0 ; warms glow + air ;";
    due("not the 41st", land(late).peak(), 34);
    EmberLand x = land(late);
    x.hour();
    due("the 40th from then", x.peak(), 40);
    due("of all", land(ember("a", "coal", 0, 6, 2) + ember("b", "iron", 2, 0, 1) + "warms glow + 2 ;").peak(), 10);
    due("two of equal heat", land(ember("a", "iron", 0, 5, 1) + "draught 0 0 9 0 0 9 ; warms air ;").peak(), 3);

    of("AGE: that heat now by 20, cut.");
    for (int heat = 0; heat <= 20; heat++) {
      due("of " + heat, land(ember("a", "iron", 0, heat, 1)).age(), heat / 20);
      due("of 20 and " + heat, land(ember("a", "coal", 0, heat, 1) + ember("b", "coal", 1, 20, 1)).age(), heat == 20 ? 2 : 1);
    }
    StringBuilder s = new StringBuilder();
    for (int i = 0; i < 7; i++) {
      s.append(ember("" + (char) ('a' + i), "coal", i, 20, 1));
    }
    x = land(s.toString());
    due("of 140", x.age(), 7);
    x.hour();
    due("of ASH", x.age(), 0);
    due("without EMBERS", new EmberLand().age(), 0);
  }

  private static void moves(String call, EmberLand x, int ember, int cell) {
    due(call + ", the EMBER", x.move(0), ember);
    due(call + ", the CELL", x.move(1), cell);
  }

  private static void move() {
    of("MOVE: the EMBER and the CELL to which to carry it by TONGS so that it LASTS longest, if that is longer than without; "
        + "of equal ones the first EMBER, then CELL.");
    moves("without EMBERS", land(""), -1, -1);
    moves("one alone", land(ember("a", "coal", 0, 20, 20)), -1, -1);
    moves("none is ALIGHT", land(ember("a", "coal", 0, 4, 20) + ember("b", "coal", 2, 4, 20)), -1, -1);
    moves("for ever without", land(turns(20, 20, 20)), -1, -1);
    String stays = "warms glow * ( 0 < near ) ; ";
    // Each keeps its heat beside the other: for as long as there is fuel.
    moves("the first, to the first", land(ember("a", "coal", 0, 20, 20) + ember("b", "coal", 2, 20, 20) + stays), 0, 1);
    moves("the first EMBER to the CELL 0", land(ember("a", "coal", 3, 20, 20) + ember("b", "coal", 1, 20, 20) + stays), 0, 0);
    moves("they touch", land(ember("a", "coal", 1, 20, 20) + ember("b", "coal", 2, 20, 20) + stays), -1, -1);
    // Iron is the first, but of no use; a may go to 6 alone, on b: all else falls or does not touch.
    moves("the second", land(ember("i", "iron", 1, 0, 9) + ember("a", "coal", 0, 20, 20) + ember("b", "coal", 2, 20, 20)
        + ember("j", "iron", 3, 0, 9) + stays), 1, 6);
    // From 40 to for ever: c behind b makes a third link.
    String links = ember("a", "coal", 0, 20, 20) + ember("b", "coal", 1, 0, 20) + "warms near * 20 ; ";
    due("40 without", land(links + ember("c", "coal", 3, 0, 20)).lasts(), 40);
    moves("to for ever", land(links + ember("c", "coal", 3, 0, 20)), 2, 2);
    due("for ever", land(links + ember("c", "coal", 2, 0, 20)).lasts(), -1);
    moves("none is longer than for ever", land(links + ember("c", "coal", 2, 0, 20)), -1, -1);
    // b has no side left but the one above, and a none at all.
    moves("the last to the last", land(ember("i", "iron", 1, 0, 9) + ember("j", "iron", 4, 0, 9) + ember("k", "iron", 3, 0, 9)
        + ember("l", "iron", 6, 0, 9) + ember("m", "iron", 2, 0, 9) + ember("b", "coal", 7, 20, 20) + ember("a", "coal", 0, 20, 20) + stays), 6, 11);
    EmberLand x = land(ember("z", "coal", 5, 20, 1) + ember("a", "coal", 0, 20, 20) + ember("b", "coal", 2, 20, 20) + "warms glow ; ");
    x.hour();
    moves("ASH is not carried", x, -1, -1);
    due("nothing is done", x.count(10), 1);
  }

  private static void banks() {
    of("BANKS: the hour from now (0 to 12) at which to BANK it (if it is not; to end that, if it is) so that it LASTS longest; "
        + "of equal ones the first; none last.");
    due("without EMBERS all are equal", land("").banks(), 0);
    due("none is ALIGHT", land(ember("a", "coal", 0, 0, 9)).banks(), 0);
    due("equal without a draught", land(ember("a", "coal", 0, 20, 9)).banks(), 0);
    due("for ever at any hour", land(turns(20, 20, 20)).banks(), 0);
    EmberLand x = land(ember("a", "coal", 0, 10, 20) + "draught 3 ;");
    due("never is best", x.banks(), -1);
    x.bank();
    due("to end it now", x.banks(), 0);
    x = land(ember("a", "coal", 0, 10, 20) + "draught 1 ; warms glow - air ;");
    due("now", x.banks(), 0);
    x.bank();
    due("never to end it", x.banks(), -1);
    String law = ember("a", "coal", 0, 20, 20) + "draught 1 ; warms ( air = 1 ) * ( glow - 1 ) + ( air = 0 ) * ( glow < ";
    // Banked, it keeps a heat below so much for its 20 hours, and loses a greater one at once.
    for (int hour = 0; hour <= 12; hour++) {
      due("at " + hour, land(law + (21 - hour) + " ) * glow ;").banks(), hour);
    }
    due("not at 13", land(law + "8 ) * glow ;").banks(), -1);
    x = land(law + "8 ) * glow ;");
    x.hour();
    due("at 12 from then", x.banks(), 12);
    // 10 8 6 4: 3 hours; banked at 0 10 7 4: 2; at 1 10 8 5 2: 3.
    due("of equal ones the first", land(ember("a", "coal", 0, 10, 20) + "draught 1 ;").banks(), 1);
    // In the hour 39 b has its last turn to come, by which it is for ever; a draught takes it, or must be there.
    String lastTurn = ember("a", "coal", 0, 20, 14) + ember("b", "coal", 2, 1, 14) + ember("c", "coal", 8, 0, 13)
        + "warms ( ( glow = 0 ) + ( glow = 1 ) * 20 ) * ( not ( glow = 1 and left = 1 and ";
    String taken = lastTurn + "air ) ) ; draught 0 0 0 9 0 0 0 0 0 0 0 0 ;";
    due("40 if never", land(taken).lasts(), 40);
    due("for ever is longer than 40", land(taken).banks(), 0);
    String given = lastTurn + "not air ) ) ; draught 0 9 9 9 0 0 0 0 0 0 0 0 ;";
    due("for ever if never", land(given).lasts(), -1);
    due("none is longer than for ever", land(given).banks(), -1);
    due("nothing is done", x.count(4), 0);
  }

  private static void stir() {
    of("STIR: the EMBER to POKE now so that the heat of all is the most behind so many (1 to 12) HOURS; of equal ones the first.");
    due("without EMBERS", land("").stir(1), -1);
    String irons = ember("i", "iron", 0, 3, 9) + ember("j", "iron", 2, 3, 9) + ember("k", "iron", 3, 18, 9);
    for (int h = 1; h <= 12; h++) {
      due("equal: the first, " + h, land(irons + "warms glow ;").stir(h), 0);
      due("all cold: the first, " + h, land(irons + "warms 0 ;").stir(h), 0);
      due("20 at most, " + h, land(ember("k", "iron", 3, 18, 9) + irons.substring(0, irons.lastIndexOf("ember")) + "warms glow ;").stir(h), 1);
    }
    due("no 0", land(irons).stir(0), -1);
    due("no 13", land(irons).stir(13), -1);
    // a, poked, catches and is ASH behind as many hours as it has fuel.
    for (int fuel = 1; fuel <= 13; fuel++) {
      for (int h = 1; h <= 12; h++) {
        EmberLand x = land(ember("a", "coal", 0, 2, fuel) + ember("b", "iron", 2, 2, 9) + "warms glow ;");
        due("fuel " + fuel + ", " + h, x.stir(h), h < fuel ? 0 : 1);
      }
    }
    due("in a draught 20 at most", land(ember("i", "iron", 0, 17, 9) + ember("j", "iron", 2, 8, 9) + "draught 3 ; warms glow + air ;").stir(1), 1);
    // c, poked, falls beside b, which warms it.
    EmberLand x = land(ember("a", "iron", 3, 0, 9) + ember("b", "coal", 0, 20, 9) + ember("c", "iron", 5, 0, 9) + "warms glow + near ;");
    due("one that falls", x.stir(1), 2);
    due("it has not", x.ember(2, 1), 5);
    x = land(ember("a", "coal", 0, 20, 1) + ember("b", "iron", 2, 20, 9));
    x.hour();
    due("not ASH", x.stir(1), 1);
  }

  private static void kindle() {
    of("KINDLE: the fewest EMBERS (no iron) that must have the heat 20 now so that each but those of iron is ALIGHT once within 12 HOURS "
        + "(now, too); of equal ones the least set (bits).");
    due("without EMBERS", land("").kindle(), 0);
    due("iron alone", land(ember("i", "iron", 0, 0, 9)).kindle(), 0);
    due("ALIGHT now and never more", land(ember("a", "coal", 0, 5, 9) + "warms 0 ;").kindle(), 0);
    due("not ALIGHT now, nor ever", land(ember("a", "coal", 0, 4, 9) + "warms 0 ;").kindle(), 1);
    due("at the 12th", land(ember("a", "coal", 0, 8, 9) + "catches 20 ; warms glow + 1 ;").kindle(), 0);
    due("at the 13th", land(ember("a", "coal", 0, 7, 9) + "catches 20 ; warms glow + 1 ;").kindle(), 1);
    due("equal: the least", land(CHAIN).kindle(), 1);
    due("two by two", land(ember("a", "coal", 0, 0, 9) + ember("b", "coal", 1, 0, 9) + ember("c", "coal", 3, 0, 9) + ember("d", "coal", 7, 0, 9)
        + "warms near * 10 ;").kindle(), 5);
    due("the fewest, not the least", land(ember("a", "coal", 0, 0, 4) + ember("b", "coal", 2, 0, 4) + ember("c", "coal", 1, 0, 20)
        + "warms near * 10 * ( left < 5 ) + ( 1 < near ) * 10 ;").kindle(), 4);
    due("not by iron", land(ember("i", "iron", 0, 0, 9) + ember("a", "coal", 1, 0, 9) + "warms near * 10 ;").kindle(), 2);
    StringBuilder s = new StringBuilder("warms 0 ; ");
    for (int i = 0; i < 7; i++) {
      s.append(ember("" + (char) ('a' + i), "coal", i, 0, 1));
    }
    due("all seven", land(s.toString()).kindle(), 127);
    EmberLand x = land(ember("a", "coal", 0, 20, 1) + ember("b", "coal", 2, 0, 9) + "warms 0 ;");
    x.hour();
    due("but ASH", x.kindle(), 2);
    x = land(ember("a", "coal", 0, 20, 1));
    x.hour();
    due("nothing but ASH", x.kindle(), 0);
  }

  private static void save() {
    of("SAVE: the fewest others that must be taken out now so that an EMBER is not ALIGHT within 12 HOURS (now, too); of equal ones the least set.");
    due("ALIGHT now", land(ember("a", "coal", 0, 5, 9) + "warms 0 ;").save(0), -1);
    due("never", land(ember("a", "coal", 0, 4, 9) + "warms 0 ;").save(0), 0);
    due("iron", land(ember("i", "iron", 0, 20, 9)).save(0), 0);
    due("at the 12th", land(ember("a", "coal", 0, 8, 9) + "catches 20 ; warms glow + 1 ;").save(0), -1);
    due("at the 13th", land(ember("a", "coal", 0, 7, 9) + "catches 20 ; warms glow + 1 ;").save(0), 0);
    EmberLand x = land(CHAIN);
    x.poke(0);
    x.poke(0);
    due("equal: the least", x.save(3), 1);
    due("itself can't be", x.save(0), -1);
    x = land(ember("a", "coal", 3, 0, 20) + ember("b", "coal", 2, 0, 20) + ember("c", "coal", 1, 20, 20) + "warms near * 10 ;");
    due("equal: the least, though further off", x.save(0), 2);
    due("the fewest, not the least", land(ember("a", "coal", 0, 20, 9) + ember("b", "coal", 2, 20, 9) + ember("c", "coal", 1, 0, 9)
        + ember("d", "coal", 5, 0, 9) + "warms near * 10 ;").save(3), 4);
    // From all four sides; on iron, so that none falls.
    due("four", land(ember("a", "coal", 5, 0, 9) + ember("b", "coal", 1, 20, 9) + ember("c", "coal", 4, 20, 9) + ember("d", "coal", 6, 20, 9)
        + ember("e", "coal", 9, 20, 9) + ember("i", "iron", 0, 0, 9) + ember("j", "iron", 2, 0, 9) + "warms near * 10 ;").save(0), 30);
    // By what is taken out it would fall beside c.
    due("iron bears it", land(ember("a", "coal", 4, 0, 9) + ember("i", "iron", 0, 0, 9) + ember("c", "coal", 1, 20, 9) + "warms near * 10 ;").save(0), 0);
    due("by the draught", land(pulse(12, 11, 9)).save(0), -1);
    x = land(ember("a", "coal", 0, 20, 1) + ember("b", "coal", 1, 4, 9) + "warms glow ;");
    x.hour();
    due("of ASH", x.save(0), -1);
    due("ASH can't be taken out", x.save(1), 0);
  }

  private static void told() {
    of("TOLD: that behind so many HOURS (0 to 12) an EMBER was ALIGHT, or was not, if just one, an unknown one, had been given the heat 20 now");
    for (int h = 0; h <= 12; h++) {
      EmberLand x = land(CHAIN);
      due("behind " + h, x.tell(0, h, true), true);
      // a is ALIGHT by itself or c at even hours from the second on, by b or d at odd ones; in the first by b alone.
      due("which", x.which(), h == 0 ? 1 : h == 1 ? 2 : h == 2 ? 5 : h % 2 == 0 ? 5 : 10);
      x = land(CHAIN);
      due("behind " + h, x.tell(0, h, false), true);
      due("which not", x.which(), h == 0 ? 14 : h == 1 ? 13 : h == 2 ? 10 : h % 2 == 0 ? 10 : 5);
    }
    EmberLand x = land(CHAIN);
    due("no -1", x.tell(0, -1, true), false);
    due("no 13", x.tell(0, 13, true), false);
    due("nothing", x.count(9), 0);
    due("all", x.which(), 15);

    of("6 at most");
    x = land(CHAIN);
    for (int i = 0; i < 6; i++) {
      due("tell " + i, x.tell(i % 4, i, i % 2 == 0), true);
      due("told", x.count(9), i + 1);
    }
    due("a seventh", x.tell(0, 0, true), false);
    due("told", x.count(9), 6);
    x = land(CHAIN);
    for (int i = 0; i < 5; i++) {
      x.tell(0, 0, true);
    }
    due("a of five", x.which(), 1);
    x.tell(1, 0, true);
    due("none by the sixth", x.which(), 0);
  }

  private static void which() {
    of("WHICH (bits) by which all TOLD is so (iron ones, too).");
    EmberLand x = land(CHAIN);
    due("nothing TOLD", x.which(), 15);
    x.tell(1, 1, true);
    due("one", x.which(), 5);
    x.tell(3, 1, false);
    due("two", x.which(), 1);
    x.tell(2, 0, true);
    due("three: none", x.which(), 0);
    x = land(ember("i", "iron", 0, 0, 9) + ember("a", "coal", 2, 0, 9) + ember("j", "iron", 3, 20, 9) + "warms glow ;");
    due("iron, too", x.which(), 7);
    x.tell(0, 3, false);
    due("iron is not ALIGHT", x.which(), 7);
    x.tell(1, 12, false);
    due("iron alone: a would have ended", x.which(), 7);
    x.tell(1, 8, false);
    due("iron alone", x.which(), 5);
    x.tell(0, 0, true);
    due("none", x.which(), 0);
    x = land(ember("a", "coal", 0, 20, 1) + ember("b", "coal", 2, 0, 9) + "warms glow ;");
    x.hour();
    due("not ASH", x.which(), 2);
    due("of ASH", x.tell(0, 0, false), true);
    due("so it is", x.which(), 2);
    x.tell(0, 0, true);
    due("so it is not", x.which(), 0);
    x = land(ember("a", "coal", 0, 0, 9) + ember("b", "coal", 2, 0, 9) + "draught 3 ; catches 20 ;");
    x.tell(1, 4, true);
    due("in a draught", x.which(), 2);
    x.bank();
    due("banked", x.which(), 0);
    due("without EMBERS", land("").which(), 0);
    // Heat 20 is given, not added: one of 20 has it already, and all stays as it is.
    due("one of heat 20", land(ember("a", "coal", 0, 20, 9)).which(), 1);
  }

  private static void look() {
    of("LOOK at so many HOURS (0 to 12): the EMBER for which the greater number of WHICH by which it is ALIGHT then, or is not, is the least, "
        + "if that is less than all; of equal ones the first.");
    EmberLand x = land(CHAIN);
    due("at 0 each parts 3 and 1: the first", x.look(0), 0);
    due("at 1 b parts 2 and 2", x.look(1), 1);
    due("at 12 each parts 2 and 2", x.look(12), 0);
    due("no -1", x.look(-1), -1);
    due("no 13", x.look(13), -1);
    x.tell(1, 1, true);
    due("of a and c, at 1 d parts", x.look(1), 3);
    due("of a and c, at 12 none", x.look(12), -1);
    x.tell(0, 0, true);
    due("one alone", x.look(0), -1);
    x.tell(0, 0, false);
    due("by none", x.look(0), -1);
    due("without EMBERS", land("").look(0), -1);
    due("all are ALIGHT anyhow", land(ember("a", "coal", 0, 20, 9) + ember("b", "coal", 2, 20, 9)).look(0), -1);
    due("iron alone", land(ember("i", "iron", 0, 0, 9) + ember("j", "iron", 2, 0, 9)).look(0), -1);
    x = land(ember("i", "iron", 0, 0, 9) + ember("a", "coal", 2, 0, 9) + "warms glow ;");
    due("iron and a: look at a", x.look(0), 1);
    due("at 8", x.look(8), 1);
    due("at 9 it is ASH", x.look(9), -1);
    x = land(ember("a", "coal", 0, 0, 13) + ember("b", "coal", 2, 0, 12) + "warms glow ;");
    due("at 12 a alone", x.look(12), 0);
    x = land(ember("z", "coal", 8, 20, 1) + ember("a", "coal", 0, 0, 9) + ember("b", "coal", 2, 0, 9) + "warms glow ;");
    x.hour();
    due("not ASH", x.look(0), 1);
  }

  private static void chance() {
    of("CHANCE: in each of so many HOURS (1 to 6) the draught is as told by odds of ten, else 0: that an EMBER is ALIGHT behind these, in millionths, cut.");
    // It keeps its heat by each draught of 3, and loses 3 without: all of them are needed.
    String text = ember("a", "coal", 0, 5, 20) + ember("i", "iron", 2, 20, 9) + ember("c", "coal", 11, 20, 20) + "draught 3 ;";
    EmberLand x = land(text);
    for (int hours = 1; hours <= 6; hours++) {
      for (int odds = 0; odds <= 10; odds++) {
        long power = 1000000;
        for (int i = 0; i < hours; i++) {
          power = power * odds / 10;
        }
        due("all of " + hours + " by " + odds, x.chance(0, hours, odds), power);
        due("iron", x.chance(1, hours, odds), 0);
      }
      due("sure", x.chance(2, hours > 5 ? 5 : hours, 5), 1000000);
    }
    due("no 0", x.chance(0, 0, 5), -1);
    due("no 7", x.chance(0, 7, 5), -1);
    due("odds -1", x.chance(0, 1, -1), -1);
    due("odds 11", x.chance(0, 1, 11), -1);
    x.bank();
    due("banked", x.chance(0, 1, 10), 0);
    // ALIGHT behind the last HOUR alone, whatever was ahead.
    x = land(ember("a", "coal", 0, 0, 20) + "draught 9 0 ; warms air ;");
    due("the last has a draught", x.chance(0, 1, 3), 300000);
    due("the last has none", x.chance(0, 2, 10), 0);
    due("the third", x.chance(0, 3, 3), 300000);
    due("the fifth", x.chance(0, 5, 1), 100000);
    x.hour();
    due("from then", x.chance(0, 2, 3), 300000);
    x = land(ember("a", "coal", 0, 20, 1));
    due("it burns out", x.chance(0, 1, 10), 0);
    x.hour();
    due("of ASH", x.chance(0, 6, 10), 0);
    // One draught of two is enough: 1 - (7/10)^2.
    x = land(ember("a", "coal", 0, 0, 20) + "draught 9 ; warms glow + air ;");
    due("one of two", x.chance(0, 2, 3), 510000);
    due("one of six", x.chance(0, 6, 1), 468559);
  }

  private static void touching() {
    of("TOUCH of an EMBER: which it touches (bits).");
    String cross = ember("a", "coal", 1, 0, 9) + ember("b", "iron", 4, 0, 9) + ember("m", "slack", 5, 0, 9) + ember("c", "stick", 6, 0, 9)
        + ember("d", "coal", 9, 0, 9) + ember("e", "coal", 8, 0, 9) + ember("f", "coal", 3, 0, 9);
    EmberLand x = land(cross);
    int[] touch = {4, 4 + 32, 1 + 2 + 8 + 16, 4, 4 + 32, 2 + 16, 0};
    for (int e = 0; e < 7; e++) {
      due("touch(" + e + ")", x.touch(e), touch[e]);
    }
    due("one alone", land(ember("a", "coal", 0, 0, 9)).touch(0), 0);

    of("HALL: all that hang together with it by touching, itself too.");
    for (int e = 0; e < 7; e++) {
      due("hall(" + e + ")", x.hall(e), e == 6 ? 64 : 63);
    }
    due("one alone", land(ember("a", "coal", 0, 0, 9)).hall(0), 1);
    // A ring with its ends apart: six touches from a to g.
    EmberLand ring = land(ember("a", "coal", 8, 0, 9) + ember("g", "coal", 10, 0, 9) + ember("b", "coal", 4, 0, 9) + ember("f", "coal", 6, 0, 9)
        + ember("c", "coal", 0, 0, 9) + ember("e", "coal", 2, 0, 9) + ember("d", "coal", 1, 0, 9));
    for (int e = 0; e < 7; e++) {
      due("of the ring " + e, ring.hall(e), 127);
    }
    ring.tongs(6, 11);
    due("parted: a", ring.hall(0), 1 + 4 + 16);
    due("parted: g, with d", ring.hall(1), 2 + 8 + 32 + 64);

    of("HALLS: how many there are.");
    due("without EMBERS", land("").halls(), 0);
    due("one", land(ember("a", "coal", 0, 0, 9)).halls(), 1);
    due("the cross and one", x.halls(), 2);
    due("the ring parted", ring.halls(), 2);
    EmberLand six = land(ember("a", "coal", 0, 0, 9) + ember("b", "coal", 2, 0, 9) + ember("c", "coal", 5, 0, 9) + ember("d", "coal", 7, 0, 9)
        + ember("e", "coal", 8, 0, 9) + ember("f", "coal", 10, 20, 1));
    due("six", six.halls(), 6);
    six.hour();
    due("f is ASH, the rest falls: 0 1 2 3 4", six.halls(), 1);

    of("TOWER: the most that lie in one column, one upon another from below.");
    due("without EMBERS", land("").tower(), 0);
    for (int c = 0; c < 4; c++) {
      String low = ember("a", "coal", c, 0, 9);
      String mid = ember("b", "coal", c + 4, 0, 9);
      String high = ember("c", "coal", c + 8, 0, 9);
      due("one", land(low).tower(), 1);
      due("two", land(low + mid).tower(), 2);
      due("three", land(high + mid + low).tower(), 3);
      due("none from below", land(mid + high).tower(), 0);
      due("none from below", land(high).tower(), 0);
      due("a gap", land(low + high).tower(), 1);
      due("the most of all", land(high + mid + low + ember("d", "coal", (c + 1) % 4, 0, 9) + ember("e", "coal", (c + 1) % 4 + 4, 0, 9)).tower(), 3);
      due("not of two columns", land(low + ember("d", "coal", (c + 1) % 4, 0, 9)).tower(), 1);
    }
  }

  private static void caught() {
    of("CAUGHT: behind how many HOURS (0 to 40) an EMBER is ALIGHT for the first time.");
    due("now", land(ember("a", "coal", 0, 5, 9)).caught(0), 0);
    due("never", land(ember("a", "coal", 0, 4, 9)).caught(0), -1);
    due("iron", land(ember("a", "iron", 0, 20, 9)).caught(0), -1);
    due("in the next", land(pulse(12, 0, 9)).caught(0), 1);
    due("the first of many", land(pulse(12, 11, 9)).caught(0), 12);
    due("at 39", land(ember("a", "coal", 0, 0, 9) + "catches 20 ; draught 1 0 ; warms glow + air ;").caught(0), 39);
    due("at 40", land(ember("a", "coal", 0, 0, 9) + "catches 20 ; draught 0 1 ; warms glow + air ;").caught(0), 40);
    EmberLand x = land(ember("a", "coal", 0, 1, 9) + "catches 20 ; draught 0 0 0 0 1 1 1 1 1 1 0 0 ; warms glow + air ;");
    due("not at 41", x.caught(0), -1);
    x.hour();
    due("at 40 from then", x.caught(0), 40);
    x = land(ember("a", "coal", 0, 20, 1));
    x.hour();
    due("of ASH", x.caught(0), -1);
  }

  private static void falls() {
    of("FALLS: which fall in the HOUR to come (bits).");
    due("without EMBERS", land("").falls(), 0);
    for (int c = 0; c < 12; c++) {
      due("from " + c, land(ember("a", "coal", c, 0, 9)).falls(), c < 4 ? 0 : 1);
    }
    due("two at once", land(ember("a", "coal", 8, 0, 9) + ember("b", "coal", 4, 0, 9)).falls(), 3);
    due("the upper one", land(ember("a", "coal", 8, 0, 9) + ember("b", "coal", 0, 0, 9)).falls(), 1);
    due("none", land(ember("a", "coal", 8, 0, 9) + ember("b", "coal", 4, 0, 9) + ember("c", "coal", 0, 0, 9)).falls(), 0);
    EmberLand x = land(ember("a", "coal", 8, 0, 9) + ember("b", "coal", 4, 0, 9) + ember("c", "coal", 0, 20, 1));
    due("the lowest is ASH then", x.falls(), 3);
    due("what is ASH then does not fall", land(ember("a", "coal", 8, 0, 9) + ember("b", "coal", 4, 20, 1)).falls(), 1);
    x.hour();
    due("none any more", x.falls(), 0);
  }

  private static void spare() {
    of("SPARE of an EMBER: how much longer it LASTS with it than if it were taken out now (less than 0: less long; 41 for ever).");
    EmberLand x = land(turns(20, 20, 20) + ember("i", "iron", 11, 0, 9));
    due("for ever, or not at all", x.spare(0), 41);
    due("for ever, or an hour", x.spare(1), 40);
    due("for ever, or two", x.spare(2), 39);
    due("for ever with and without", x.spare(3), 0);
    due("40, or not at all", land(turns(14, 13, 13)).spare(0), 40);
    due("41 is for ever", land(turns(14, 14, 13)).spare(0), 41);
    due("an hour", land(ember("a", "coal", 0, 5, 9)).spare(0), 1);
    due("none", land(ember("a", "coal", 0, 4, 9)).spare(0), 0);
    x = land(ember("a", "coal", 0, 20, 20) + ember("b", "coal", 1, 20, 20) + ember("s", "slack", 5, 0, 20) + "draught 1 ;");
    due("16 with, 20 without", x.spare(2), -4);
    x = land(ember("a", "coal", 0, 20, 20) + ember("b", "coal", 1, 0, 20) + ember("c", "coal", 2, 0, 20) + ember("s", "slack", 5, 0, 20)
        + "warms near * 20 ;");
    due("an hour with, for ever without", x.spare(3), -40);
    due("nothing is taken out", x.count(6), 80);
  }

  private static void loneAndWarmest() {
    of("LONE: which touch none (bits).");
    due("without EMBERS", land("").lone(), 0);
    due("one", land(ember("a", "coal", 0, 0, 9)).lone(), 1);
    due("two apart", land(ember("a", "coal", 0, 0, 9) + ember("b", "coal", 5, 0, 9)).lone(), 3);
    due("two and one", land(ember("a", "coal", 0, 0, 9) + ember("b", "coal", 11, 0, 9) + ember("c", "coal", 4, 0, 9)).lone(), 2);
    EmberLand x = land(ember("a", "coal", 0, 20, 1) + ember("b", "coal", 1, 0, 9));
    due("they touch", x.lone(), 0);
    x.hour();
    due("a is ASH", x.lone(), 2);

    of("WARMEST: the CELL where nothing lies that is touched by those of the most heat, together, if that is above 0; of equal ones the first.");
    due("without EMBERS", land("").warmest(), -1);
    due("of heat 0", land(ember("a", "coal", 5, 0, 9)).warmest(), -1);
    int[] first = {1, 0, 1, 2, 0, 1, 2, 3, 4, 5, 6, 7};
    for (int c = 0; c < 12; c++) {
      due("beside " + c, land(ember("a", "iron", c, 1, 9)).warmest(), first[c]);
    }
    due("two together", land(ember("a", "coal", 0, 5, 9) + ember("b", "coal", 5, 4, 9) + ember("c", "coal", 11, 8, 9)).warmest(), 1);
    due("one of more", land(ember("a", "coal", 0, 5, 9) + ember("b", "coal", 5, 4, 9) + ember("c", "coal", 11, 10, 9)).warmest(), 7);
    due("not where one lies", land(ember("a", "coal", 0, 20, 9) + ember("b", "coal", 1, 0, 9) + ember("c", "coal", 4, 0, 9)
        + ember("d", "coal", 7, 1, 9)).warmest(), 3);
    due("four sides", land(ember("a", "coal", 1, 5, 9) + ember("b", "coal", 4, 5, 9) + ember("c", "coal", 6, 5, 9) + ember("d", "coal", 9, 5, 9)
        + ember("e", "coal", 3, 14, 9)).warmest(), 2);
    due("four sides are more", land(ember("a", "coal", 1, 5, 9) + ember("b", "coal", 4, 5, 9) + ember("c", "coal", 6, 5, 9) + ember("d", "coal", 9, 5, 9)
        + ember("e", "coal", 3, 9, 9)).warmest(), 5);
    due("the last CELL", land(ember("a", "coal", 10, 1, 9) + ember("b", "coal", 7, 1, 9) + ember("c", "coal", 6, 0, 9)).warmest(), 11);
    x = land(ember("a", "coal", 0, 20, 1));
    x.hour();
    due("none by ASH", x.warmest(), -1);
  }

  private static long restsOf(int both, int loses, int gets, int what) {
    try {
      return new EmberLand().rests(both, loses, gets, what);
    } catch (NoSuchElementException none) {
      return -99;
    }
  }

  private static void rests() {
    of("FIRE of two: each feeds or warms himself: both feed: each gets so much (0 to 9); one feeds: he loses so much (0 to 9), "
        + "the other one gets so much (0 to 9); both warm themselves: nothing: RESTS: by which neither would get more by the other.");
    for (int both = 0; both <= 9; both++) {
      for (int loses = 0; loses <= 9; loses++) {
        for (int gets = 0; gets <= 9; gets++) {
          // Both warm themselves: who feeds alone loses, or nothing. One feeds: nothing is lost by it, and feeding too gives no more.
          // Both feed: warming himself would give no more.
          int[] found = new int[4];
          int n = 0;
          found[n++] = 0;
          if (loses == 0 && both <= gets) {
            found[n++] = 1;
            found[n++] = 2;
          }
          if (gets <= both) {
            found[n++] = 3;
          }
          String game = "rests(" + both + ", " + loses + ", " + gets + ", ";
          due(game + "NONE)", restsOf(both, loses, gets, -1), n);
          for (int i = 0; i < 5; i++) {
            due(game + i + ")", restsOf(both, loses, gets, i), i < n ? found[i] : -99);
          }
        }
      }
    }
    for (int bad : new int[] {-1, 10, -9, 19, Integer.MIN_VALUE, Integer.MAX_VALUE}) {
      for (int what = -1; what < 2; what++) {
        due("both " + bad, restsOf(bad, 1, 1, what), -99);
        due("loses " + bad, restsOf(1, bad, 1, what), -99);
        due("gets " + bad, restsOf(1, 1, bad, what), -99);
      }
    }
  }

  // ---- DRAWS, reckoned with great numbers

  private static BigInteger g;

  private static int draw(int m) {
    g = g.multiply(BigInteger.valueOf(1103515245L)).add(BigInteger.valueOf(12345L)).mod(BigInteger.ONE.shiftLeft(31));
    return g.shiftRight(16).mod(BigInteger.valueOf(m)).intValue();
  }

  /** Irons side by side in the CELLS 0 .. n - 1, with heat 0 and fuel 1: what pokes and feeding bring. */
  private static int[] heatAndFuel(int n, int seed, int hours) {
    int[] heat = new int[n];
    int[] fuel = new int[n];
    g = BigInteger.valueOf(seed);
    for (int h = 0; h < hours; h++) {
      int act = draw(4);
      if (act == 0) {
        int e = draw(n);
        heat[e] = Math.min(20, heat[e] + 3);
      } else if (act == 1) {
        int e = draw(n);
        fuel[e] = Math.min(19, fuel[e] + draw(9) + 1);
      }
    }
    int[] sums = {0, n};
    for (int e = 0; e < n; e++) {
      sums[0] += heat[e];
      sums[1] += fuel[e];
    }
    return sums;
  }

  private static void draws() {
    of("A DRAW below m: g becomes (g * 1103515245 + 12345) modulo 2147483648 (g is the SEED at first); it is g / 65536, cut, modulo m.");
    int[] seeds = {0, 1, 2, 3, 17, 4095, 4096, 9998, 9999};
    int[] hours = {1, 2, 3, 7, 8, 9, 31, 98, 99};
    StringBuilder irons = new StringBuilder();
    for (int n = 1; n <= 7; n++) {
      irons.append(ember("" + (char) ('a' + n), "iron", n - 1, 0, 1));
      EmberLand pokes = land(irons + "warms glow ;");
      EmberLand feeds = land(irons + "warms left ;");
      for (int seed : seeds) {
        for (int h : hours) {
          int[] want = heatAndFuel(n, seed, h);
          due(n + " irons, pokes, winters(" + seed + ", " + h + ", 2)", pokes.winters(seed, h, 2), want[0]);
          due(n + " irons, feeding, winters(" + seed + ", " + h + ", 2)", feeds.winters(seed, h, 2), want[1]);
        }
      }
    }
  }

  private static void winters() {
    of("WINTERS by a SEED of so many hours (1 to 99), from now on (all is as ahead then)");
    // By the SEED 1 nothing is done in the first two hours; the third one feeds.
    EmberLand x = land(ember("a", "coal", 0, 20, 2) + ember("b", "coal", 2, 20, 20) + "warms glow ;");
    due("one hour", x.winters(1, 1, 0), 0);
    due("two hours", x.winters(1, 2, 0), 1);
    due("99 hours", x.winters(1, 99, 0), 2);
    due("no 0", x.winters(1, 0, 0), -1);
    due("no 100", x.winters(1, 100, 0), -1);
    String before = Check.state(x);
    x.winters(9999, 99, 2);
    CHECK.due("all is as ahead", Check.state(x), before);
    x.hour();
    due("from now on", x.winters(1, 1, 0), 1);
    due("undo", x.undo(), true);
    CHECK.due("undone", Check.state(x), before);
    x = land(ember("a", "iron", 0, 0, 1) + "draught 1 2 3 ; warms air ;");
    x.hour();
    due("the draught from now on", x.winters(1, 1, 2), 2);
    due("the draught two on", x.winters(1, 2, 2), 3);
    x.bank();
    due("banked", x.winters(1, 1, 2), 0);

    of("each, if there are EMBERS told");
    for (int w = 0; w < 3; w++) {
      due("none: " + w, land("").winters(0, 99, w), 0);
      due("a new object: " + w, new EmberLand().winters(9999, 1, w), 0);
    }

    of("a DRAW below 4: 0: one below EMBERS is POKED, 1: one below EMBERS is FED by a DRAW below 9 and 1, if that can be; then the HOUR");
    // The SEED 0: 0, a poke, and the first of any.
    x = land(ember("a", "coal", 0, 2, 20) + ember("b", "coal", 2, 2, 20) + "warms glow ;");
    due("one is poked", x.winters(0, 1, 2), 7);
    due("then it is ALIGHT", x.winters(0, 1, 1), 1);
    x = land(ember("a", "coal", 4, 2, 20) + ember("b", "coal", 1, 20, 20) + "warms near ;");
    due("it falls ahead of the HOUR", x.winters(0, 1, 2), 2);
    x = land(ember("a", "coal", 0, 2, 1) + "warms glow ;");
    due("ALIGHT by the poke, it burns in that HOUR", x.winters(0, 1, 0), 1);
    // The SEED 1, third hour: the second of 7 is fed by 2, the first of 5, the second of 2: 17515, then 31051.
    StringBuilder seven = new StringBuilder();
    for (int i = 0; i < 7; i++) {
      seven.append(ember("" + (char) ('a' + i), "coal", i, 20, 3));
    }
    x = land(seven + "warms glow ;");
    due("six of seven, one is fed", x.winters(1, 3, 0), 6);
    due("ALIGHT still", x.winters(1, 3, 1), 1);
    due("its heat", x.winters(1, 4, 2), 20);
    due("then it is ASH", x.winters(1, 5, 0), 7);
    // All are ASH ahead of it: it can't be.
    x = land(seven.toString().replace("fuel 3", "fuel 2") + "warms glow ;");
    due("none can be fed", x.winters(1, 9, 0), 7);
    due("nor poked", x.winters(1, 9, 2), 0);
    // b burns out in the first hour; what is drawn for it is drawn all the same.
    for (int seed = 0; seed < 60; seed++) {
      EmberLand y = land(ember("i", "iron", 0, 0, 1) + ember("b", "coal", 2, 20, 1) + ember("j", "iron", 3, 0, 1) + "warms glow ;");
      y.hour();
      int heat = 0;
      int[] each = new int[3];
      g = BigInteger.valueOf(seed);
      for (int h = 0; h < 20; h++) {
        int act = draw(4);
        if (act == 0) {
          int e = draw(3);
          each[e] = Math.min(20, each[e] + 3);
        } else if (act == 1) {
          draw(3);
          draw(9);
        }
      }
      heat = each[0] + each[2];
      due("one of three is ASH, seed " + seed, y.winters(seed, 20, 2), heat);
    }

    of("how many came to ASH; how many are ALIGHT at last; heat of all at last.");
    x = land(seven.toString().replace("fuel 3", "fuel 1") + "warms glow ;");
    due("seven", x.winters(1, 1, 0), 7);
    due("none is ALIGHT", x.winters(1, 1, 1), 0);
    due("no heat", x.winters(1, 1, 2), 0);
    x.hour();
    due("those that were ASH ahead do not count", x.winters(1, 1, 0), 0);
    x = land(seven + "warms glow - 1 ;");
    due("none", x.winters(1, 2, 0), 0);
    due("seven are ALIGHT", x.winters(1, 2, 1), 7);
    due("heat", x.winters(1, 2, 2), 126);
  }

  private static void marks() {
    of("MARKS 0 to 3 hold all that UNDO brings back, what is TOLD");
    String text = ember("a", "coal", 8, 20, 2) + ember("b", "coal", 1, 9, 9) + "draught 3 1 ; warms glow ;";
    EmberLand x = land(text);
    String[] states = new String[4];
    for (int m = 0; m < 4; m++) {
      due("lay " + m, x.mark(m, false), true);
      states[m] = Check.state(x).replaceAll("\\d+ (\\d+ )$", "0 $1");
      if (m == 0) {
        x.hour();
        x.tell(0, 1, false);
      } else if (m == 1) {
        x.bank();
        x.hour();
        x.fuel(1, 3);
        x.tell(1, 1, true);
      } else {
        x.tongs(1, 11);
        x.poke(1);
        x.tell(1, 2, true);
      }
    }
    for (int m : new int[] {3, 0, 2, 1, 1}) {
      due("back to " + m, x.mark(m, true), true);
      CHECK.due("as it was at " + m, Check.state(x), states[m]);
    }

    x = land(CHAIN);
    int[] which = {15, 5, 1, 0};
    for (int m = 0; m < 4; m++) {
      due("WHICH by " + m, x.which(), which[m]);
      x.mark(m, false);
      // By b in an hour a or c; without d in it a; by b now none.
      due("tell", m == 0 ? x.tell(1, 1, true) : m == 1 ? x.tell(3, 1, false) : x.tell(1, 0, true), true);
    }
    x.mark(0, true);
    for (int i = 0; i < 6; i++) {
      x.tell(0, 12, false);
    }
    due("WHICH by others", x.which(), 10);
    for (int m : new int[] {3, 2, 1, 0, 2}) {
      x.mark(m, true);
      due("as many TOLD as at " + m, x.count(9), m);
      due("WHICH as at " + m, x.which(), which[m]);
    }

    of("(nothing can be undone when one is gone back to)");
    x = land(text);
    x.hour();
    x.hour();
    x.mark(2, false);
    due("laid: what can be undone stays", x.count(10), 2);
    due("back", x.mark(2, true), true);
    due("nothing", x.count(10), 0);
    due("no undo", x.undo(), false);
    due("the hour", x.count(2), 2);
    x.hour();
    due("one again", x.count(10), 1);
    due("undo", x.undo(), true);
    due("to the MARK", x.count(2), 2);
    due("no further", x.undo(), false);
    x.hour();
    due("none is laid on 1", x.mark(1, true), false);
    due("so what can be undone stays", x.count(10), 1);
  }
}

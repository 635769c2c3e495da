/** The edges of "Terms" from the CELLS to JUDGED, each sentence by itself. */
public final class FireEdgesTest {
  private static final Check CHECK = new Check();
  private static final String[] KINDS = {"coal", "stick", "slack", "iron"};

  public static void main(String[] args) {
    cells();
    alight();
    heat();
    burning();
    falling();
    poking();
    carrying();
    feeding();
    banking();
    undoing();
    judging();
    CHECK.end();
  }

  private static void of(String sentence) {
    CHECK.of(sentence);
  }

  private static void due(String call, long got, long want) {
    CHECK.due(call, got, want);
  }

  private static void due(String call, boolean got, boolean want) {
    CHECK.due(call, got, want);
  }

  private static EmberLand land(String text) {
    return CHECK.land(text);
  }

  private static String ember(String name, String kind, int cell, int heat, int fuel) {
    return Check.ember(name, kind, cell, heat, fuel);
  }

  private static void cells() {
    of("The CELLS lie in three rows of four, 0 to 3 below, then 4 to 7, then 8 to 11");
    for (int c = 0; c < 12; c++) {
      EmberLand x = land(ember("a", "iron", c, 0, 1));
      x.hour();
      due("what falls from " + c, x.ember(0, 1), c < 4 ? c : c - 4);
      x.hour();
      due("and on", x.ember(0, 1), c % 4);
      x.hour();
      due("no deeper", x.ember(0, 1), c % 4);
    }

    of("two touch that lie beside each other in a row, or one above the other");
    for (int a = 0; a < 12; a++) {
      for (int b = 0; b < 12; b++) {
        if (a != b) {
          boolean row = a / 4 == b / 4 && (a - b == 1 || b - a == 1);
          boolean column = a - b == 4 || b - a == 4;
          int touches = row || column ? 1 : 0;
          EmberLand x = land(ember("a", "iron", a, 0, 1) + ember("b", "coal", b, 20, 9) + "warms near ;");
          due(a + " touches " + b, x.touch(0), touches * 2);
          due("hall of " + a + " and " + b, x.hall(0), 1 + touches * 2);
          due("halls of " + a + " and " + b, x.halls(), 2 - touches);
          due("lone of " + a + " and " + b, x.lone(), 3 - 3 * touches);
          x.hour();
          due("near of " + a + " and " + b, x.ember(0, 2), touches);
        }
      }
    }
  }

  private static void alight() {
    of("An EMBER of heat catches or more is ALIGHT, but for one of iron.");
    for (int catches : new int[] {1, 2, 5, 19, 20}) {
      for (int heat = 0; heat <= 20; heat++) {
        for (int k = 0; k < 4; k++) {
          EmberLand x = land(ember("a", KINDS[k], 0, heat, 9) + "catches " + catches + " ;");
          int lit = heat >= catches && k != 3 ? 1 : 0;
          due(KINDS[k] + " of " + heat + ", catches " + catches, x.ember(0, 4), lit);
          due("alight(0)", x.alight(0), lit);
        }
      }
    }
    EmberLand x = land(ember("a", "coal", 0, 4, 9));
    x.poke(0);
    due("by a poke", x.ember(0, 4), 1);
    x.undo();
    due("no more", x.ember(0, 4), 0);
  }

  private static void lawGives(String law, int heat) {
    EmberLand x = land(ember("a", "iron", 0, 10, 9) + "warms " + law + " ;");
    x.hour();
    due("warms " + law, x.ember(0, 2), heat);
  }

  private static void heat() {
    of("HOUR: all EMBERS at once have the heat that the E of warms tells");
    // Heat goes one touch an hour, whichever way they are numbered.
    for (int way = 0; way < 2; way++) {
      StringBuilder s = new StringBuilder("warms near * 20 ; ");
      for (int i = 0; i < 4; i++) {
        int cell = way == 0 ? i : 3 - i;
        s.append(ember("" + (char) ('a' + i), "coal", cell, cell == 0 ? 20 : 0, 9));
      }
      EmberLand x = land(s.toString());
      int[] cells = {1, 2, 5, 10, 5};
      for (int h = 0; h < cells.length; h++) {
        int lit = 0;
        for (int e = 0; e < 4; e++) {
          lit |= x.ember(e, 4) << x.ember(e, 1);
        }
        due("ALIGHT in the hour " + h, lit, cells[h]);
        x.hour();
      }
    }
    // One that burns out, and one that falls, still count as they were.
    EmberLand y = land(ember("a", "coal", 0, 20, 1) + ember("b", "coal", 4, 20, 9) + ember("c", "iron", 5, 0, 9) + "warms near ;");
    due("a is ASH", y.hour(), 1);
    due("b by a", y.ember(1, 2), 1);
    due("c by b", y.ember(2, 2), 1);

    of("(0 to 20; air is 0 while the grate is banked)");
    lawGives("0 - 1", 0);
    lawGives("0", 0);
    lawGives("1", 1);
    lawGives("19", 19);
    lawGives("20", 20);
    lawGives("21", 20);
    lawGives("glow - 11", 0);
    lawGives("glow + 11", 20);
    lawGives("0 - 9999 * 9999", 0);
    lawGives("9999 * 9999", 20);
    EmberLand x = land(ember("a", "iron", 0, 0, 9) + "draught 9 8 7 ; warms air ;");
    x.hour();
    due("not banked", x.ember(0, 2), 9);
    x.bank();
    x.hour();
    due("banked", x.ember(0, 2), 0);
    due("its draught as told", x.count(3), 7);
    x.hour();
    due("banked still", x.ember(0, 2), 0);
    x.bank();
    x.hour();
    due("no more; the draught of the hour 3", x.ember(0, 2), 9);

    of("It is the next hour.");
    x = new EmberLand();
    for (int h = 0; h < 40; h++) {
      due("the hour", x.count(2), h);
      x.hour();
    }
    x = land("draught 1 2 3 4 5 ;");
    for (int h = 0; h < 480; h++) {
      x.hour();
    }
    due("the 480th", x.count(2), 480);
    due("its draught", x.count(3), 1);
  }

  private static void burning() {
    of("then each that was ALIGHT ahead of that has 1 fuel less (a stick 2)");
    int[] less = {1, 2, 1, 0};
    for (int k = 0; k < 4; k++) {
      EmberLand x = land(ember("a", KINDS[k], 0, 5, 9) + "warms 0 ;");
      x.hour();
      due(KINDS[k] + " that goes out", x.ember(0, 3), 9 - less[k]);
      x.hour();
      due("it is out", x.ember(0, 3), 9 - less[k]);
      x = land(ember("a", KINDS[k], 0, 4, 9) + "warms 20 ;");
      x.hour();
      due(KINDS[k] + " that catches", x.ember(0, 3), 9);
      x.hour();
      due("it has caught", x.ember(0, 3), 9 - less[k]);
    }

    of("one without fuel is ASH: no more there");
    int[][] rows = {{0, 1, 1}, {0, 2, 0}, {1, 1, 1}, {1, 2, 1}, {1, 3, 0}, {2, 1, 1}, {2, 2, 0}, {3, 1, 0}, {3, 2, 0}};
    for (int[] r : rows) {
      EmberLand x = land(ember("a", KINDS[r[0]], 0, 20, r[1]) + ember("b", "iron", 1, 7, 9) + "warms 9 ;");
      due(KINDS[r[0]] + " with " + r[1], x.hour(), r[2]);
      due("count(7)", x.count(7), r[2]);
      due("its CELL", x.ember(0, 1), r[2] == 1 ? -1 : 0);
      due("in the CELL", x.cell(0), r[2] == 1 ? -1 : 0);
      due("its heat", x.ember(0, 2), r[2] == 1 ? 0 : 9);
      due("heat of all", x.count(5), r[2] == 1 ? 9 : 18);
      due("touched no more", x.touch(1), r[2] == 1 ? 0 : 1);
      due("how many were told", x.count(0), 2);
    }
    EmberLand x = land(ember("a", "stick", 0, 20, 1) + ember("b", "coal", 1, 0, 1) + "warms near ;");
    due("to ASH", x.hour(), 1);
    due("its fuel", x.ember(0, 3), 0);
    due("fuel of all", x.count(6), 1);
    due("by a as it was", x.ember(1, 2), 1);
    due("only once", x.hour(), 0);
    due("by none", x.ember(1, 2), 0);
    due("ASH still", x.count(7), 1);
    due("its KIND is known", x.ember(0, 0), 1);
    due("it is not ALIGHT", x.ember(0, 4), 0);
    // All seven in one HOUR.
    StringBuilder s = new StringBuilder();
    for (int i = 0; i < 7; i++) {
      s.append(ember("" + (char) ('a' + i), "coal", i, 20, 1));
    }
    x = land(s.toString());
    due("all seven", x.hour(), 127);
    due("none is there", x.count(7), 127);
    due("no heat", x.count(5), 0);
    due("no fuel", x.count(6), 0);
  }

  private static void falling() {
    of("Then, from the CELL 0 on, each EMBER below which (4 CELLS less) none lies falls into that CELL");
    for (int c = 4; c < 12; c++) {
      EmberLand x = land(ember("a", "iron", c, 0, 1) + ember("b", "iron", c - 4, 0, 1));
      x.hour();
      due("it lies on one", x.ember(0, 1), c - 4 < 4 ? c : c - 4);
      due("the other", x.ember(1, 1), c - 4 < 4 ? c - 4 : c - 8);
    }
    // What burns out in the HOUR bears none.
    EmberLand y = land(ember("a", "coal", 2, 20, 1) + ember("b", "coal", 6, 0, 1) + ember("c", "coal", 10, 0, 1));
    due("to ASH", y.hour(), 1);
    due("b fell", y.cell(2), 1);
    due("c fell", y.cell(6), 2);
    due("none above", y.cell(10), -1);
    // Heat comes ahead of the fall: it is warmed where it lay.
    y = land(ember("a", "iron", 5, 0, 1) + ember("b", "coal", 0, 20, 9) + ember("c", "coal", 6, 20, 9) + "warms near ;");
    y.hour();
    due("by c alone", y.ember(0, 2), 1);
    due("then it lies by b", y.touch(0), 6);

    of("(so one may fall where one has just fallen from; none falls twice)");
    EmberLand x = land(ember("a", "iron", 11, 0, 1) + ember("b", "iron", 7, 0, 1));
    x.hour();
    due("b", x.ember(1, 1), 3);
    due("a where b was", x.ember(0, 1), 7);
    x.hour();
    due("a lies on b", x.ember(0, 1), 7);
    x = land(ember("a", "iron", 9, 0, 1));
    x.hour();
    due("one row an HOUR", x.ember(0, 1), 5);
    x.hour();
    due("the next", x.ember(0, 1), 1);
    x = land(ember("a", "iron", 8, 0, 1) + ember("b", "iron", 0, 0, 1));
    x.hour();
    due("onto one", x.ember(0, 1), 4);
    x.hour();
    due("no more", x.ember(0, 1), 4);
  }

  private static void poking() {
    of("POKE an EMBER: its heat is 3 more, 20 at most");
    for (int heat = 0; heat <= 20; heat++) {
      for (int k = 0; k < 4; k++) {
        EmberLand x = land(ember("a", KINDS[k], 0, heat, 9) + ember("b", "coal", 1, 7, 9));
        due("its CELL", x.poke(0), 0);
        due("heat of " + heat, x.ember(0, 2), heat + 3 > 20 ? 20 : heat + 3);
        due("no other", x.ember(1, 2), 7);
        due("no fuel", x.count(6), 18);
        due("no hour", x.count(2), 0);
      }
    }

    of("if none lies below, it falls");
    for (int c = 0; c < 12; c++) {
      EmberLand x = land(ember("a", "coal", c, 0, 9));
      due("from " + c, x.poke(0), c < 4 ? c : c - 4);
      due("it is there", x.cell(c < 4 ? c : c - 4), 0);
      due("and not there", x.cell(c), c < 4 ? 0 : -1);
      if (c >= 4) {
        x = land(ember("a", "coal", c, 0, 9) + ember("b", "coal", c - 4, 0, 9));
        due("one lies below " + c, x.poke(0), c);
        x = land(ember("a", "coal", c - 4, 0, 9) + ember("b", "coal", c, 0, 9));
        x.poke(0);
        due("what lay on it does not fall", x.cell(c), 1);
      }
    }
  }

  private static void carrying() {
    of("TONGS: an EMBER to a CELL where none lies.");
    for (int from = 0; from < 12; from++) {
      for (int to = 0; to < 12; to++) {
        EmberLand x = land(ember("a", "coal", from, 3, 9) + ember("b", "coal", (from + 1) % 12, 0, 9));
        boolean can = to != from && to != (from + 1) % 12;
        due("from " + from + " to " + to, x.tongs(0, to), can);
        due("it lies in", x.ember(0, 1), can ? to : from);
        due("there", x.cell(can ? to : from), 0);
        due("here", x.cell(from), can ? -1 : 0);
        due("to undo", x.count(10), can ? 1 : 0);
        due("its heat", x.ember(0, 2), 3);
      }
    }
    EmberLand x = land(ember("a", "coal", 0, 20, 1) + ember("b", "coal", 5, 0, 9));
    due("where one is that will be ASH", x.tongs(1, 0), false);
    x.hour();
    due("where one was that is ASH", x.tongs(1, 0), true);
  }

  private static void feeding() {
    of("FEED an EMBER: so much fuel more, 20 at most.");
    for (int fuel = 1; fuel <= 20; fuel++) {
      for (int more = 1; more <= 9; more++) {
        EmberLand x = land(ember("a", KINDS[more % 4], 0, 3, fuel) + ember("b", "coal", 1, 0, 2));
        int then = fuel + more > 20 ? 20 : fuel + more;
        due(fuel + " and " + more, x.fuel(0, more), then);
        due("it has", x.ember(0, 3), then);
        due("of all", x.count(6), then + 2);
        due("its heat", x.ember(0, 2), 3);
      }
    }
  }

  private static void banking() {
    of("BANK: the grate is banked, or is no more.");
    EmberLand x = new EmberLand();
    for (int i = 0; i < 5; i++) {
      due("count(4)", x.count(4), i % 2);
      due("bank " + i, x.bank(), i % 2 == 0);
    }
    x = land("");
    x.bank();
    x.hour();
    due("an HOUR on", x.count(4), 1);
  }

  private static void undoOne(EmberLand x, String deed, String before, boolean done) {
    due(deed + " is done", done, true);
    due("to undo", x.count(10), 1);
    due("undo " + deed, x.undo(), true);
    CHECK.due("as ahead of " + deed, Check.state(x), before);
    due("no more", x.undo(), false);
  }

  private static void undoing() {
    of("UNDO: all of these");
    String text = ember("a", "coal", 4, 20, 1) + ember("b", "stick", 1, 20, 20) + ember("c", "iron", 2, 0, 3) + "draught 4 ;";
    EmberLand x = land(text);
    String before = Check.state(x);
    undoOne(x, "hour", before, x.hour() == 1);
    undoOne(x, "poke", before, x.poke(0) == 0);
    x = land(text);
    undoOne(x, "poke that does nothing", before, x.poke(1) == 1);
    undoOne(x, "tongs", before, x.tongs(0, 11));
    x = land(text);
    undoOne(x, "feed", before, x.fuel(2, 9) == 12);
    undoOne(x, "feed that does nothing", before, x.fuel(1, 9) == 20);
    x = land(text);
    undoOne(x, "bank", before, x.bank());
    x = land("");
    undoOne(x, "an HOUR without EMBERS", Check.state(land("")), x.hour() == 0);
    x = land(text);
    x.poke(9);
    x.poke(-1);
    x.tongs(0, 1);
    x.tongs(0, 12);
    x.tongs(3, 11);
    x.fuel(0, 0);
    x.fuel(0, 10);
    x.fuel(3, 5);
    due("nothing that was refused", x.count(10), 0);
    x.hour();
    x.poke(0);
    x.tongs(0, 9);
    x.fuel(0, 4);
    due("nothing of ASH", x.count(10), 1);
    x.feed(32, 0, 0);
    x.evening();
    x.tell(0, 0, true);
    x.mark(0, false);
    x.lasts();
    x.winters(1, 9, 0);
    due("nothing else", x.count(10), 1);

    of("the last 16, one by one");
    for (int deeds : new int[] {15, 16, 17, 18, 31, 32, 33, 48, 100}) {
      x = land(ember("a", "iron", 0, 0, 1) + "warms glow ;");
      for (int i = 0; i < deeds; i++) {
        x.hour();
      }
      int can = deeds < 16 ? deeds : 16;
      due("of " + deeds, x.count(10), can);
      for (int i = 1; i <= can; i++) {
        due("undo " + i, x.undo(), true);
        due("its hour", x.count(2), deeds - i);
        due("left", x.count(10), can - i);
      }
      due("of " + deeds + " no more", x.undo(), false);
      due("the hour stays", x.count(2), deeds - can);
      // And all of it once more.
      x.bank();
      due("one again", x.count(10), 1);
      due("undone", x.undo(), true);
      due("not banked", x.count(4), 0);
      due("no more", x.undo(), false);
    }
    x = land(ember("a", "iron", 0, 0, 1) + "warms glow ;");
    for (int i = 0; i < 12; i++) {
      x.hour();
      x.hour();
      x.undo();
      due("to and fro", x.count(10), i + 1);
      due("the hour", x.count(2), i + 1);
    }
    // What was undone is gone: another deed stands in its place.
    x.undo();
    x.undo();
    x.bank();
    due("the hour", x.count(2), 10);
    x.undo();
    x.undo();
    due("the hour behind the bank", x.count(2), 9);
  }

  private static void judged(EmberLand x, String text, int wrong, int ash, int heat) {
    due("evening of " + text, Check.evening(x, text), 0);
    due(text + " can't be", x.judged(0), wrong);
    due(text + " ASH", x.judged(1), ash);
    due(text + " heat", x.judged(2), heat);
  }

  private static void judging() {
    String text = ember("a", "coal", 4, 20, 1) + ember("b", "coal", 2, 10, 9) + ember("c", "iron", 3, 0, 20) + "draught 3 ;";
    of("JUDGED: the EVENING from the begin");
    EmberLand x = land(text);
    judged(x, "", -1, -1, 30);
    judged(x, "poke b ;", -1, -1, 33);
    x.poke(1);
    x.poke(2);
    x.bank();
    x.hour();
    x.hour();
    due("not from now", x.judged(2), 33);
    // As told a is there again, and nothing is banked: b 10 + 3 - 3; c 0 + 2 + 3 - 3.
    judged(x, "poke a ; hour ;", -1, 1, 12);
    judged(x, "bank ; hour ; tongs b 9 ; feed b 9 ;", -1, 1, 7);
    String before = Check.state(x);
    due("once more", x.judged(2), 7);
    CHECK.due("nothing is done", Check.state(x), before);

    of("the first line (from 0) that can't be (of one that is ASH; tongs to where one lies; lines that can't be are left out)");
    x = land(text);
    judged(x, "tongs a 2 ;", 0, -1, 30);
    judged(x, "tongs a 4 ;", 0, -1, 30);
    judged(x, "tongs a 0 ; tongs b 0 ; tongs b 2 ;", 1, -1, 30);
    judged(x, "hour ; poke a ;", 1, 0, 12);
    judged(x, "hour ; feed a 9 ;", 1, 0, 12);
    judged(x, "hour ; tongs a 11 ;", 1, 0, 12);
    judged(x, "hour ; tongs c 4 ; tongs c 0 ; feed c 9 ; poke c ;", -1, 0, 15);
    // c gains 2 an hour while b burns, for 9 hours.
    judged(x, "hour;".repeat(39) + "poke a;", 39, 0, 18);
    // b 10 - 3; c 0 + 2 - 3.
    judged(x, "tongs b 3 ; bank ; hour ; poke a ; bank ;", 0, 2, 7);

    of("the first line by which one is ASH");
    judged(x, "bank ; poke b ; hour ; hour ;", -1, 2, 7);
    judged(x, "feed a 1 ; hour ; hour ; hour ;", -1, 2, 10 + 6);
    judged(x, "poke b ;", -1, -1, 33);
    judged(x, "hour;".repeat(40), -1, 0, 18);
    EmberLand y = land(ember("a", "coal", 0, 5, 20) + ember("b", "coal", 2, 20, 1) + "warms glow ;");
    judged(y, "tongs b 9 ; hour ;", -1, 1, 5);
    y = land(ember("a", "coal", 0, 5, 20) + "warms glow ;");
    judged(y, "bank;".repeat(20) + "hour;".repeat(20), -1, 39, 0);
    judged(y, "bank;".repeat(21) + "hour;".repeat(19), -1, -1, 5);

    of("the heat of all at last, together.");
    judged(x, "poke a ; poke b ; poke c ; poke c ; poke c ; poke c ; poke c ; poke c ; poke c ;", -1, -1, 53);
    judged(land(ember("a", "coal", 0, 20, 1)), "hour ;", -1, 0, 0);
  }
}

import java.util.List;

/** The edges of "Terms" from TAPE to FAULTS, each sentence by itself. */
public final class ReadingEdgesTest {
  private static final Check CHECK = new Check();
  private static final String BLANKS = " ".repeat(24);
  private static final String RESERVED = "ember at heat fuel draught catches warms hour poke tongs feed bank coal stick slack iron not and or";
  private static final String FACTS = "glow near air left";
  private static final String PARTS = FACTS + " 1 9999 0 not (";
  private static final String TOKENS = RESERVED + " " + FACTS + " zz pp 0 1 9999 ( ) < = + - * ; @ A Z abcdefghi 12345 _ ~ ! , . > / [ ` { : ^";
  private static final String ONE = "ember pp coal at 1 heat 1 fuel 1 ; ";

  public static void main(String[] args) {
    tape();
    tokens();
    words();
    embers();
    draughts();
    catchesAndOnce();
    evenings();
    names();
    joins();
    depth();
    facts();
    truth();
    places();
    whatCanStand();
    faultsByKind();
    anew();
    CHECK.end();
  }

  private static void of(String sentence) {
    CHECK.of(sentence);
  }

  private static void due(String call, long got, long want) {
    CHECK.due(call, got, want);
  }

  private static void due(String call, boolean got, boolean want) {
    CHECK.due(call, got, want);
  }

  private static EmberLand land(String text) {
    return CHECK.land(text);
  }

  /** The FAULT of a text in which ^ stands ahead of the wrong token; 0 of one without. */
  private static void grate(int kind, String marked) {
    String text = marked.replace("^", "");
    due("grate of " + marked, Check.grate(new EmberLand(), text), kind == 0 ? 0 : kind + 16 * marked.indexOf('^'));
  }

  /** Likewise, with the EMBERS pp and glow. */
  private static void evening(int kind, String marked) {
    EmberLand x = land(ONE + Check.ember("glow", "iron", 2, 0, 1));
    due("evening of " + marked, Check.evening(x, marked.replace("^", "")), kind == 0 ? 0 : kind + 16 * marked.indexOf('^'));
  }

  private static String seven() {
    StringBuilder s = new StringBuilder();
    for (int i = 0; i < 7; i++) {
      s.append(Check.ember("" + (char) ('g' - i), "iron", 11 - i, i, i + 1));
    }
    return s.toString();
  }

  // ---- TAPE

  private static EmberLand fedBlanks(int signs) {
    EmberLand x = new EmberLand();
    Check.feed(x, " ".repeat(signs));
    due("blanks fed", x.count(11), signs);
    return x;
  }

  private static void tape() {
    of("The TAPE has at most 1,000 signs");
    EmberLand x = fedBlanks(998);
    due("999", Check.feed(x, "a"), 999);
    due("1,000", Check.feed(x, "b"), 1000);
    due("no 1,001st", Check.feed(x, "c"), 1000);
    due("none of 24", x.feed(Check.eight(BLANKS, 0), Check.eight(BLANKS, 0), Check.eight(BLANKS, 0)), 1000);
    due("count(11)", x.count(11), 1000);
    due("the first 1,000 are kept", x.grate(), 1 + 16 * 998);
    x = fedBlanks(984);
    due("16 of 24", Check.feed(x, BLANKS), 1000);
    x = fedBlanks(995);
    due("5 of 10", Check.feed(x, "catches 5;"), 1000);
    due("what is beyond is not read", x.grate(), 1 + 16 * 995);
    x = fedBlanks(993);
    due("up to the last", Check.feed(x, "catches"), 1000);
    due("the end is at 1,000", x.grate(), 1 + 16 * 1000);
    x = fedBlanks(990);
    Check.feed(x, "catches 6;");
    due("a line up to the last", x.grate(), 0);
    due("it is read", x.count(1), 6);

    of("10 and 32 .. 126");
    for (int s = 0; s < 256; s++) {
      int counts = s == 10 || s >= 32 && s <= 126 ? 1 : 0;
      due("sign " + s + " first", new EmberLand().feed((long) s << 56, 0, 0), counts);
      due("sign " + s + " last", new EmberLand().feed(0, 0, s), counts);
    }

    of("what reads it takes it: it is empty then");
    for (String text : new String[] {"", "catches 7;", "catches 0;", "hour;", "@", BLANKS}) {
      x = new EmberLand();
      Check.grate(x, text);
      due("behind grate() of " + text, x.count(11), 0);
      due("from 0 again", Check.feed(x, "hour;"), 5);
      Check.evening(x, text);
      due("behind evening() of " + text, x.count(11), 0);
      due("nothing is read again", x.evening(), 0);
      due("no line", x.count(8), 0);
    }
  }

  // ---- TOKENS

  private static void tokens() {
    of("TOKENS, each as long as can be");
    EmberLand x = land("ember emberat coal at 10 heat 12 fuel 20 ; ember notand coal at 1 heat 1 fuel 1 ; catches 12;");
    due("at 10", x.ember(0, 1), 10);
    due("heat 12", x.ember(0, 2), 12);
    due("catches 12", x.count(1), 12);
    due("emberat is one", Check.evening(x, "poke emberat ; poke notand ;"), 0);
    due("ember is another", Check.evening(x, "poke notan ;"), 2 + 16 * 5);
    grate(1, "^catchesfive ;");
    grate(1, "^emberpp coal at 1 heat 1 fuel 1 ;");
    grate(4, "catches ^99;");

    of("blanks (10, 32) between where one likes");
    grate(0, "ember pp coal at 1heat 1fuel 1;catches 5;draught 0 1;warms(glow)+1;");
    grate(0, "ember pp coal at1heat1fuel1;catches5;draught0 1;warms(1)and 1or not 1;");
    grate(0, "\n\nember\npp\ncoal\nat\n1\nheat\n1\nfuel\n1\n;\n\n");
    grate(0, "   ember   pp   coal   at   1   heat   1   fuel   1   ;   ");
    grate(0, " \n \n");
    grate(1, "catches 1 ^2 ;");
    grate(1, "^catch es 5 ;");
    grate(1, "ember p ^p coal");
    grate(1, "ember pp coal ^a t 1");
    evening(0, "hour;bank;poke pp;tongs pp 3;feed pp 1;");
    evening(0, "hour\n;bank ;poke\npp ; tongs pp\n3;feed pp1;");

    of("the signs ( ) < = + - * ;");
    law("(1<2)=1+2-2*1", 1);
    law("(2)*(3)-(1)+(0)", 5);

    of("All else");
    for (int s = 33; s < 127; s++) {
      if (s != ';') {
        due("catches 5 " + (char) s, Check.grate(new EmberLand(), "catches 5 " + (char) s + " ;"), 1 + 16 * 10);
        due("hour " + (char) s, Check.evening(new EmberLand(), "hour\n " + (char) s + ";"), 1 + 16 * 6);
      }
    }

    of("(a longer WORD or NUMBER, too, at its first sign) is none");
    grate(1, "ember ^abcdefghi coal");
    grate(1, "^" + "e".repeat(1000));
    grate(1, "^emberembe");
    grate(1, "catches ^00005;");
    grate(1, "catches ^99999;");
    grate(1, "catches ^" + "1".repeat(992));
    grate(1, "ember pp coal at ^00001 heat");
    grate(1, "warms ^12345 ;");
    // By a NUMBER's wrap-around it would be 5.
    grate(1, "catches ^4294967301;");
    evening(1, "hour; ^hourhourh;");
    evening(1, "poke ^ppppppppp;");
    evening(1, "feed pp ^00001;");
    // Cut to 8 letters, or taken round by 2 to the 64th, it would be told already.
    grate(1, Check.ember("abcdefgh", "coal", 0, 0, 1) + "ember ^abcdefghi coal");
    grate(1, Check.ember("p", "coal", 0, 0, 1) + "ember ^paaaaaaaaaaaaap coal");
  }

  private static void words() {
    of("WORDS (letters a .. z, 8 at most)");
    for (int n = 1; n <= 8; n++) {
      EmberLand x = land("ember " + "z".repeat(n) + " coal at 1 heat 1 fuel 1 ;");
      due(n + " letters", Check.evening(x, "poke " + "z".repeat(n) + ";"), 0);
      due("one less", n == 1 ? 2 : Check.evening(x, "poke " + "z".repeat(n - 1) + ";") & 15, 2);
    }
    grate(1, "ember ^zzzzzzzzz coal");
    for (char c = 'a'; c <= 'z'; c++) {
      grate(0, Check.ember("" + c, "coal", 1, 1, 1) + Check.ember(c + "q", "coal", 2, 1, 1));
      grate(1, "ember ^" + Character.toUpperCase(c) + " coal");
    }
    grate(1, "ember pp^Q coal");
    grate(1, "ember ^`p coal");
    grate(1, "ember ^{p coal");
    grate(1, "ember p^{p coal");

    of("NUMBERS (1 to 4 digits; a letter may stand right behind)");
    for (String number : new String[] {"5", "05", "005", "0005"}) {
      EmberLand x = land("ember pp coal at " + number + "heat " + number + "fuel " + number + ";warms " + number + "and 1;");
      due(number, x.ember(0, 1) + x.ember(0, 2) + x.ember(0, 3), 15);
    }
    grate(1, "catches ^00005;");
    grate(4, "catches ^0000;");
    grate(0, "warms 9999and 0or 1;");
    grate(1, "catches 5^x;");
    for (char c = '0'; c <= '9'; c++) {
      due("the digit " + c, land("draught " + c + ";").count(3), c - '0');
    }
    grate(1, "draught ^/;");
    grate(1, "draught ^:;");
  }

  // ---- GRATE

  private static void embers() {
    of("GRATE: any number of");
    grate(0, "");
    grate(0, "catches 5 ; ");
    grate(0, "warms 1 ; draught 1 ; catches 5 ; " + ONE);
    grate(0, ONE + "catches 5 ; ember qq iron at 2 heat 0 fuel 9 ; draught 1 ; ember rr coal at 3 heat 0 fuel 9 ; warms 1 ;");

    of("ember: 7 at most, numbered as told");
    EmberLand x = land(seven());
    due("seven", x.count(0), 7);
    for (int i = 0; i < 7; i++) {
      due("CELL of " + i, x.ember(i, 1), 11 - i);
      due("in the CELL", x.cell(11 - i), i);
      due("heat of " + i, x.ember(i, 2), i);
      due("fuel of " + i, x.ember(i, 3), i + 1);
    }
    due("no eighth", x.ember(7, 0), -2);
    grate(5, seven() + "^ember h coal at 0 heat 1 fuel 1 ;");
    grate(5, seven() + "catches 5 ; ^ember");

    of("KIND: coal, stick, slack, iron");
    String[] kinds = {"coal", "stick", "slack", "iron"};
    for (int k = 0; k < 4; k++) {
      due(kinds[k], land(Check.ember("pp", kinds[k], 0, 1, 1)).ember(0, 0), k);
    }
    grate(1, "ember pp ^coals at 1");
    grate(1, "ember pp ^coa at 1");
    grate(1, "ember pp ^wood at 1");
    grate(1, "ember pp ^at 1");

    of("at a CELL 0 to 11 where none was told");
    for (int c = 0; c < 12; c++) {
      due("at " + c, land(Check.ember("pp", "coal", c, 1, 1)).cell(c), 0);
      grate(3, Check.ember("pp", "coal", c, 1, 1) + "ember qq coal at ^" + c + " heat");
      grate(3, Check.ember("pp", "coal", c, 1, 1) + Check.ember("qq", "coal", (c + 1) % 12, 1, 1) + "ember rr coal at ^" + c);
      grate(0, Check.ember("pp", "coal", c, 1, 1) + Check.ember("qq", "coal", (c + 1) % 12, 1, 1));
    }
    for (String n : new String[] {"12", "0012", "13", "16", "99", "256", "9999"}) {
      grate(4, "ember pp coal at ^" + n + " heat 1 fuel 1 ;");
    }
    // Told in a GRATE ahead, or in one with a FAULT.
    x = land(ONE);
    due("a FAULT", Check.grate(x, "ember pp coal at 2 heat 1 fuel 1 ; ;"), 1 + 16 * 35);
    due("anew at 1 and 2", Check.grate(x, ONE + Check.ember("qq", "coal", 2, 1, 1)), 0);

    of("heat 0 to 20");
    for (int h = 0; h <= 20; h++) {
      due("heat " + h, land(Check.ember("pp", "coal", 0, h, 1)).ember(0, 2), h);
    }
    grate(4, "ember pp coal at 0 heat ^21 fuel 1 ;");
    grate(4, "ember pp coal at 0 heat ^9999 fuel 1 ;");
    grate(1, "ember pp coal at 0 heat ^- 1 fuel 1 ;");

    of("fuel 1 to 20");
    for (int f = 1; f <= 20; f++) {
      due("fuel " + f, land(Check.ember("pp", "coal", 0, 1, f)).ember(0, 3), f);
    }
    grate(4, "ember pp coal at 0 heat 1 fuel ^0 ;");
    grate(4, "ember pp coal at 0 heat 1 fuel ^0000 ;");
    grate(4, "ember pp coal at 0 heat 1 fuel ^21 ;");
    grate(4, "ember pp coal at 0 heat 1 fuel ^9999 ;");
  }

  private static void draughts() {
    of("draught: 0 to 9 of one hour behind another");
    EmberLand x = land("draught 0 9 1 8 2 7 3 6 4 5 ;");
    for (int d : new int[] {0, 9, 1, 8, 2, 7, 3, 6, 4, 5}) {
      due("of the hour " + x.count(2), x.count(3), d);
      x.hour();
    }
    grate(4, "draught ^10 ;");
    grate(4, "draught 9 ^10 ;");
    grate(4, "draught ^9999 ;");
    grate(1, "draught 1 ^- 1 ;");

    of("1 to 12, again and again (0)");
    grate(1, "draught ^;");
    grate(5, "draught 1 2 3 4 5 6 7 8 9 0 1 2 ^3 ;");
    grate(5, "draught 1 2 3 4 5 6 7 8 9 0 1 2 ^0");
    for (int n = 1; n <= 12; n++) {
      StringBuilder s = new StringBuilder("draught ");
      for (int i = 0; i < n; i++) {
        s.append((i * 7 + n) % 10).append(' ');
      }
      x = land(s + ";" + Check.ember("pp", "iron", 0, 0, 1) + "warms air ;");
      for (int h = 0; h < 30; h++) {
        due(n + " draughts, hour " + h, x.count(3), (h % n * 7 + n) % 10);
        x.hour();
        due("and the air of it", x.ember(0, 2), (h % n * 7 + n) % 10);
      }
    }
    x = land(Check.ember("pp", "iron", 0, 0, 1) + "warms air + 1 ;");
    for (int h = 0; h < 14; h++) {
      due("none told", x.count(3), 0);
      x.hour();
      due("no air", x.ember(0, 2), 1);
    }
    due("not the one of an old GRATE", draughtBehind("draught 9 ;", ""), 0);
    due("not the one of a FAULT", draughtBehind("draught 3 ;", "draught 9 ; ;"), 3);
  }

  private static int draughtBehind(String first, String second) {
    EmberLand x = land(first);
    Check.grate(x, second);
    return x.count(3);
  }

  private static void catchesAndOnce() {
    of("catches 1 to 20 (5)");
    grate(4, "catches ^0 ;");
    grate(4, "catches ^21 ;");
    grate(4, "catches ^9999 ;");
    for (int c = 1; c <= 20; c++) {
      EmberLand x = land("catches " + c + " ; " + Check.ember("a", "coal", 0, c, 1) + Check.ember("b", "coal", 2, c - 1, 1));
      due("catches", x.count(1), c);
      due("from " + c + " on", x.alight(0), 1);
    }
    EmberLand x = land(Check.ember("a", "coal", 0, 5, 1) + Check.ember("b", "coal", 2, 4, 1));
    due("5 if it is not told", x.count(1), 5);
    due("from 5 on", x.alight(0), 1);
    due("a new object", new EmberLand().count(1), 5);
    x = land("catches 9 ;");
    due("a FAULT", Check.grate(x, "catches 8 ; ;"), 1 + 16 * 12);
    due("as it was", x.count(1), 9);
    due("anew", Check.grate(x, ""), 0);
    due("5 again", x.count(1), 5);

    of("draught, catches, warms: once each");
    String[] lines = {"draught 0 ; ", "catches 5 ; ", "warms 0 ; "};
    String[] words = {"draught", "catches", "warms"};
    for (int i = 0; i < 3; i++) {
      grate(3, lines[i] + "^" + lines[i]);
      grate(3, lines[i] + "^" + words[i]);
      grate(3, lines[i] + ONE + lines[(i + 1) % 3] + lines[(i + 2) % 3] + "^" + words[i]);
      grate(0, lines[i] + lines[(i + 1) % 3] + lines[(i + 2) % 3]);
      x = land(lines[i]);
      due("once more in another GRATE", Check.grate(x, lines[i]), 0);
      due("a FAULT", Check.grate(x, lines[i] + ";"), 1 + 16 * lines[i].length());
      due("once more behind a FAULT", Check.grate(x, lines[i]), 0);
    }
  }

  // ---- EVENING

  private static void evenings() {
    of("EVENING: any number of");
    evening(0, "");
    evening(0, " \n ");
    String[] lines = {"hour ;", "poke pp ;", "tongs pp 3 ;", "feed pp 1 ;", "bank ;"};
    for (String first : lines) {
      evening(0, first);
      for (String second : lines) {
        evening(0, first + second);
      }
    }

    of("an EMBER to a CELL 0 to 11");
    for (int c = 0; c < 12; c++) {
      evening(0, "tongs pp " + c + " ;");
    }
    evening(4, "tongs pp ^12 ;");
    evening(4, "tongs pp ^9999 ;");
    evening(1, "tongs pp ^- 1 ;");

    of("an EMBER 1 to 9");
    for (int n = 1; n <= 9; n++) {
      evening(0, "feed pp " + n + " ;");
    }
    evening(4, "feed pp ^0 ;");
    evening(4, "feed pp ^10 ;");
    evening(4, "feed pp ^9999 ;");

    of("40 lines at most");
    EmberLand x = land(ONE);
    for (int n = 38; n <= 40; n++) {
      due(n + " lines", Check.evening(x, "bank;".repeat(n)), 0);
      due("count(8)", x.count(8), n);
    }
    for (String line : lines) {
      evening(5, "hour;".repeat(40) + "^" + line);
    }
    evening(0, "hour;".repeat(40) + " \n");
    due("a 41st", Check.evening(x, "hour;".repeat(41)), 5 + 16 * 200);
    due("the EVENING stays", x.count(8), 40);
  }

  private static void names() {
    of("A NAME is another WORD than ember, at, heat, fuel, draught, catches, warms, hour, poke, tongs, feed, bank, the KINDS, not, and, or");
    for (String word : RESERVED.split(" ")) {
      grate(1, "ember ^" + word + " coal at 1 heat 1 fuel 1 ;");
      evening(1, "poke ^" + word + " ;");
      evening(1, "tongs ^" + word + " 1 ;");
      evening(1, "feed ^" + word + " 1 ;");
      String longer = word.length() < 8 ? word + "s" : word;
      grate(0, "ember " + longer + " coal at 1 heat 1 fuel 1 ;");
      String shorter = word.equals("at") ? "a" : word.substring(0, word.length() - 1);
      grate(0, "ember " + shorter + " coal at 1 heat 1 fuel 1 ;");
    }
    for (String fact : FACTS.split(" ")) {
      EmberLand x = land("ember " + fact + " coal at 1 heat 1 fuel 1 ; warms " + fact + " ;");
      due("of " + fact, Check.evening(x, "poke " + fact + " ; tongs " + fact + " 3 ; feed " + fact + " 1 ;"), 0);
    }

    of("no two are alike");
    grate(3, Check.ember("abcdefgh", "coal", 0, 1, 1) + Check.ember("b", "coal", 1, 1, 1) + "ember ^abcdefgh iron");
    grate(3, Check.ember("b", "coal", 0, 1, 1) + Check.ember("a", "coal", 1, 1, 1) + "ember ^a");
    grate(0, Check.ember("abcdefgh", "coal", 0, 1, 1) + Check.ember("abcdefgi", "coal", 1, 1, 1) + Check.ember("bbcdefgh", "coal", 2, 1, 1)
        + Check.ember("abcdefg", "coal", 3, 1, 1) + Check.ember("hgfedcba", "coal", 4, 1, 1));
    for (char c = 'a'; c <= 'z'; c++) {
      for (char d = 'a'; d <= 'z'; d++) {
        if (!List.of(RESERVED.split(" ")).contains("" + c + d)) {
          grate(0, Check.ember("" + d, "coal", 0, 1, 1) + Check.ember("" + c + d, "coal", 1, 1, 1) + Check.ember("x" + c + d, "coal", 2, 1, 1));
          grate(c == d ? 3 : 0, Check.ember("" + c, "coal", 0, 1, 1) + Check.ember((c == d ? "^" : "") + d, "coal", 1, 1, 1));
        }
      }
    }
    EmberLand x = land(ONE);
    due("the NAME of an old GRATE", Check.grate(x, ONE), 0);
  }

  // ---- E

  /** The heat behind an HOUR of one with heat 10, fuel 7, an ALIGHT one beside it, in a draught of 4. */
  private static void law(String law, int heat) {
    EmberLand x = land("ember a coal at 0 heat 10 fuel 7 ; ember b coal at 1 heat 20 fuel 9 ; draught 4 ; warms " + law + " ;");
    x.hour();
    due("warms " + law, x.ember(0, 2), heat);
  }

  private static void joins() {
    of("E: TEST { and TEST or or TEST }, from the left");
    law("1 or 1 and 0", 0);
    law("1 or ( 1 and 0 )", 1);
    law("0 and 0 or 1", 1);
    law("0 and 1 or 0 and 1 or 1 and 1", 1);
    law("0 or 2 < 3 and 1", 1);
    law("1 and 1 = 0 or 0", 0);
    grate(1, "warms ^and 1 ;");
    grate(1, "warms 1 and ^;");
    grate(1, "warms 1 or ^and 1 ;");
    law("1 and 1" + " and 1".repeat(90), 1);

    of("TEST: SUM, or SUM < SUM, or SUM = SUM");
    law("3 < 4", 1);
    law("4 < 4", 0);
    law("5 < 4", 0);
    law("4 = 4", 1);
    law("4 = 5", 0);
    law("1 + 3 = 2 * 2", 1);
    law("( 1 < 2 ) = 1", 1);
    for (String join : new String[] {"<", "="}) {
      grate(1, "warms 1 " + join + " 2 ^< 3 ;");
      grate(1, "warms 1 " + join + " 2 ^= 3 ;");
      grate(1, "warms 1 " + join + " ^;");
      grate(1, "warms ^" + join + " 1 ;");
      grate(0, "warms 1 " + join + " 2 and 1 " + join + " 2 ;");
      grate(1, "warms ( 1 " + join + " 2 ^" + join + " 3 ) ;");
      grate(0, "warms ( 1 " + join + " 2 ) " + join + " 3 ;");
    }

    of("SUM: PRODUCT { + or - PRODUCT }");
    law("20 - 3 - 2", 15);
    law("20 - 3 + 2", 19);
    law("20 - ( 3 + 2 )", 15);
    law("1 + 2 * 3 - 4", 3);
    grate(1, "warms ^+ 1 ;");
    grate(1, "warms ^- 1 ;");
    grate(1, "warms 1 - ^- 1 ;");
    grate(1, "warms 1 + ^;");
    law("0" + "+1".repeat(19), 19);

    of("PRODUCT: PART { * PART }");
    law("2 * 3 * 3", 18);
    law("2 * ( 1 + 2 ) * 3", 18);
    law("not 0 * 5", 5);
    grate(1, "warms ^* 1 ;");
    grate(1, "warms 1 * ^;");
    grate(1, "warms 1 * ^* 1 ;");
    grate(1, "warms 2 ^2 ;");
    grate(1, "warms 2 ^( 2 ) ;");
    law("2" + "*1".repeat(200), 2);

    of("PART: a NUMBER, a fact, not PART, ( E )");
    law("0", 0);
    law("9999 = 9998 + 1", 1);
    law("not 1", 0);
    law("not glow + 3", 3);
    law("( 1 or 0 and 0 )", 0);
    law("( 3 < 4 )", 1);
    grate(1, "warms ^;");
    grate(1, "warms ( ^) ;");
    grate(1, "warms ( 1 ^;");
    grate(1, "warms 1 ^) ;");
    grate(1, "warms not ^;");
    grate(1, "warms ^pp ;");
    grate(1, "warms 1^");
    grate(1, "warms ( 1^");
  }

  /** The PARTS of not and ( ) by the bits of a set, around a PART. */
  private static String nest(int deep, int bits, String part) {
    StringBuilder open = new StringBuilder();
    StringBuilder close = new StringBuilder();
    for (int i = 0; i < deep; i++) {
      boolean not = (bits >> i & 1) == 1;
      open.append(not ? "not " : "( ");
      close.append(not ? "" : " )");
    }
    return open + part + close;
  }

  private static void depth() {
    of("no PART lies within 5 of not and ( )");
    for (int bits = 0; bits < 16; bits++) {
      grate(0, "warms " + nest(4, bits, "1") + " ;");
      grate(0, "warms " + nest(4, bits, "glow") + " + " + nest(4, 15 - bits, "1") + " and " + nest(4, bits, "near") + " ;");
    }
    for (int bits = 0; bits < 32; bits++) {
      for (String part : PARTS.split(" ")) {
        grate(5, "warms " + nest(5, bits, "^" + part) + " ;");
        grate(5, "warms " + nest(4, bits, "1") + " * " + nest(5, bits, "^" + part) + " ;");
      }
    }
    grate(5, "warms ( ( ( ( 1 + 1 * not ^1 ) ) ) ) ;");
    grate(0, "warms " + "( 1 ) + ".repeat(9) + "not 1 * ".repeat(9) + "1 ;");
    // So deep that 4 numbers wait at each depth.
    String deep = "0 or 3 < 2 + 2 * ";
    law(deep + "( " + deep + "( " + deep + "( " + deep + "( " + deep + "1 ) ) ) )", 1);
    law(deep + "( " + deep + "( " + deep + "( " + deep + "( " + deep + "0 ) ) ) )", 0);
    law("7 - 4 * ( " + deep + "( " + deep + "( " + deep + "( " + deep + "1 ) ) ) )", 3);
    law(deep + "not ( " + deep + "not ( 0 ) )", 0);
    law(deep + "not ( " + deep + "not ( 1 ) )", 1);
  }

  private static int nearOf(String others) {
    EmberLand x = land(Check.ember("me", "iron", 5, 0, 1) + others + "warms near + 9 ;");
    x.hour();
    return x.ember(0, 2) - 9;
  }

  private static void facts() {
    of("glow (its heat)");
    for (int heat : new int[] {0, 1, 10, 19, 20}) {
      EmberLand x = land(Check.ember("me", "iron", 5, heat, 1) + Check.ember("a", "iron", 1, 7, 1) + "warms 20 - glow ;");
      x.hour();
      due("of " + heat, x.ember(0, 2), 20 - heat);
    }

    of("near (how many that are ALIGHT it touches, less those of slack that are not ALIGHT; 0 at least)");
    String lit1 = Check.ember("a", "coal", 1, 5, 9);
    String lit4 = Check.ember("b", "stick", 4, 20, 9);
    String lit6 = Check.ember("c", "slack", 6, 5, 9);
    String lit9 = Check.ember("d", "coal", 9, 6, 9);
    due("none", nearOf(""), 0);
    due("one", nearOf(lit1), 1);
    due("four", nearOf(lit1 + lit4 + lit6 + lit9), 4);
    due("not across a corner", nearOf(Check.ember("a", "coal", 0, 9, 9) + Check.ember("b", "coal", 2, 9, 9) + Check.ember("c", "coal", 8, 9, 9)
        + Check.ember("d", "coal", 10, 9, 9) + Check.ember("e", "coal", 7, 9, 9)), 0);
    due("not itself", nearOfItself(), 0);
    due("none that is not ALIGHT", nearOf(Check.ember("a", "coal", 1, 4, 9) + Check.ember("b", "stick", 4, 0, 9)), 0);
    due("none of iron", nearOf(Check.ember("a", "iron", 1, 20, 9) + Check.ember("b", "iron", 4, 20, 9)), 0);
    String dull4 = Check.ember("b", "slack", 4, 4, 9);
    String dull6 = Check.ember("c", "slack", 6, 0, 9);
    due("one less one", nearOf(lit1 + dull4), 0);
    due("two less one", nearOf(lit1 + lit9 + dull4), 1);
    due("two less two", nearOf(lit1 + lit9 + dull4 + dull6), 0);
    due("one less two: 0", nearOf(lit1 + dull4 + dull6), 0);
    due("none less two: 0", nearOf(dull4 + dull6), 0);
    due("less none across a corner", nearOf(lit1 + Check.ember("b", "slack", 0, 4, 9)), 1);

    of("air (the hour's draught)");
    law("air", 4);
    law("air + 0 * glow", 4);

    of("left (its fuel)");
    for (int fuel : new int[] {1, 2, 19, 20}) {
      EmberLand x = land(Check.ember("me", "coal", 5, 0, fuel) + Check.ember("b", "coal", 1, 0, 7) + "warms left ; catches 20 ;");
      x.hour();
      due("of " + fuel, x.ember(0, 2), fuel);
      due("of the other", x.ember(1, 2), 7);
    }
    // The fuel ahead of the HOUR, not the one behind it.
    EmberLand burning = land(Check.ember("me", "stick", 5, 9, 9) + "warms left ;");
    burning.hour();
    due("ahead of it", burning.ember(0, 2), 9);
    due("behind it", burning.ember(0, 3), 7);

    of("Without warms: glow + near * 2 + air - 3");
    EmberLand x = land("ember a coal at 0 heat 10 fuel 7 ; ember b coal at 1 heat 20 fuel 9 ; draught 4 ;");
    x.hour();
    due("10 + 2 + 4 - 3", x.ember(0, 2), 13);
    x = land("warms 20 ;");
    due("anew without", Check.grate(x, "ember a iron at 0 heat 10 fuel 7 ;"), 0);
    x.hour();
    due("10 - 3", x.ember(0, 2), 7);
    x = land("ember a iron at 0 heat 10 fuel 7 ; warms 0 ;");
    x.hour();
    due("a law of 0 is one", x.ember(0, 2), 0);
  }

  private static int nearOfItself() {
    EmberLand x = land(Check.ember("me", "coal", 5, 20, 9) + "warms near ;");
    x.hour();
    return x.ember(0, 2);
  }

  private static void truth() {
    of("Of not, and, or, < and = comes 1 or 0");
    law("7 and 9", 1);
    law("7 or 9", 1);
    law("0 or 9", 1);
    law("9 or 0", 1);
    law("0 or 0", 0);
    law("7 and 0", 0);
    law("0 and 7", 0);
    law("0 and 0", 0);
    law("not 7", 0);
    law("not 0", 1);
    law("not not 7", 1);
    law("( 3 < 9 ) * 6", 6);
    law("( 3 = 3 ) * 6", 6);
    law("( 3 = 9 ) + 6", 6);

    of("what is not 0 is so");
    law("0 - 1 and 1", 1);
    law("1 and 0 - 1", 1);
    law("0 or 0 - 1", 1);
    law("not ( 0 - 1 )", 0);
    law("2 and 1", 1);
    law("not 2", 0);
    // 2 to the 32nd comes round to 0: that is not so.
    law("not ( 256 * 256 * 256 * 256 )", 1);

    of("ints wrap");
    // 2147483647, the greatest.
    String most = "9999 * 9999 * 21 + 9999 * 4790 + 8416";
    law(most, 20);
    law(most + " + 1", 0);
    law(most + " + 1 < 0", 1);
    law("0 - ( " + most + " ) - 1", 0);
    law("0 - ( " + most + " ) - 2", 20);
    law("0 - ( " + most + " ) - 2 = " + most, 1);
    law("9999 * 9999 * 21", 20);
    law("9999 * 9999 * 22", 0);
    law("256 * 256 * 256 * 256 + 7", 7);
    law("( " + most + " ) * 2 + 9", 7);
  }

  // ---- FAULTS

  private static void places() {
    of("FAULTS, kind + 16 * the place (from 0) of a token");
    grate(1, "^x");
    grate(1, " ^x");
    grate(1, "\n\n ^x");
    grate(3, "catches 5 ; ^catches");
    grate(4, "catches ^21");
    grate(5, "draught 1 1 1 1 1 1 1 1 1 1 1 1 ^1");
    evening(2, "poke ^xx");
    grate(1, " ".repeat(999) + "^x");
    EmberLand x = new EmberLand();
    // Bytes that are left out have no place.
    x.feed(0x0001020363617463L, 0x6865730D09203000L, 0x3BL);
    due("of catches 0;", x.grate(), 4 + 16 * 8);

    of("the end being one at the text's length");
    grate(1, "catches^");
    grate(1, "catches ^");
    grate(1, "catches 5^");
    grate(1, "catches 5 \n \n^");
    grate(1, "ember pp coal at 1 heat 1 fuel 1  ^");
    grate(1, "warms ( 1  ^");
    grate(1, "draught 1 1 1 1 1 1 1 1 1 1 1 1^");
    grate(1, "catches" + " ".repeat(993) + "^");
    evening(1, "hour^");
    evening(1, "poke ^");
    evening(1, "poke pp  ^");
    evening(1, "hour;".repeat(39) + "hour \n^");

    of("of the first token from the left that is wrong the least");
    grate(4, "catches ^0 catches ember ember");
    grate(1, "ember ^ember coal at 99");
    grate(3, ONE + "ember ^pp wood at 1 heat 99");
    grate(4, "ember pp coal at ^12 heat 21 fuel 0");
    grate(1, "^x catches 0");
    evening(2, "poke ^xx 3 ; feed pp 0");
    evening(4, "feed pp ^0 ; poke xx");
    // What is wrong by 4 and 5 at once, or by 1 and 5.
    grate(4, "draught 1 1 1 1 1 1 1 1 1 1 1 1 ^10 ;");
    grate(1, "draught 1 1 1 1 1 1 1 1 1 1 1 1 ^00001 ;");
    grate(1, "warms ( ( ( ( ( ^) ) ) ) ) ;");
    evening(1, "hour;".repeat(40) + "^x");
    evening(1, "hour;".repeat(40) + "^;");
    evening(1, "hour;".repeat(40) + "^hourhourhour");
    evening(5, "hour;".repeat(40) + "^feed xx 0 ;");
    grate(1, seven() + "^embers");
  }

  /** All tokens behind a begin: those that can stand there, the kind and tokens of other FAULTS, and 1 of all else. */
  private static void follow(boolean evening, String begin, String can, String... others) {
    List<String> allowed = List.of(can.split(" "));
    int place = begin.isEmpty() ? 0 : begin.length() + 1;
    for (String token : TOKENS.split(" ")) {
      int fault = faultOf(evening, begin.isEmpty() ? token : begin + " " + token);
      String call = "[" + token + "] behind [" + begin + "]";
      if (allowed.contains(token)) {
        due(call + " can stand there", fault == 0 || fault >> 4 > place, true);
      } else {
        due(call, fault, kindOf(token, others) + 16 * place);
      }
    }
    due("the end behind [" + begin + "]", faultOf(evening, begin), allowed.contains("END") ? 0 : 1 + 16 * begin.length());
  }

  private static int kindOf(String token, String[] others) {
    for (String other : others) {
      if (List.of(other.substring(2).split(" ")).contains(token)) {
        return other.charAt(0) - '0';
      }
    }
    return 1;
  }

  private static int faultOf(boolean evening, String text) {
    EmberLand x = evening ? land(ONE) : new EmberLand();
    return evening ? Check.evening(x, text) : Check.grate(x, text);
  }

  private static void whatCanStand() {
    of("1 it is none, or can't stand there");
    String begins = "END ember draught catches warms";
    follow(false, "", begins);
    follow(false, ONE.trim(), begins);
    follow(false, "catches 5 ;", "END ember draught warms", "3 catches");
    follow(false, "draught 0 ;", "END ember catches warms", "3 draught");
    follow(false, "warms 0 ;", "END ember draught catches", "3 warms");
    follow(false, seven().trim(), "END draught catches warms", "5 ember");
    follow(false, "ember", "zz pp " + FACTS);
    follow(false, ONE + "ember", "zz " + FACTS, "3 pp");
    follow(false, "ember qq", "coal stick slack iron");
    follow(false, "ember qq coal", "at");
    follow(false, "ember qq coal at", "0 1", "4 9999");
    follow(false, ONE + "ember qq coal at", "0", "3 1", "4 9999");
    follow(false, "ember qq coal at 1", "heat");
    follow(false, "ember qq coal at 1 heat", "0 1", "4 9999");
    follow(false, "ember qq coal at 1 heat 1", "fuel");
    follow(false, "ember qq coal at 1 heat 1 fuel", "1", "4 0 9999");
    follow(false, "ember qq coal at 1 heat 1 fuel 1", ";");
    follow(false, "draught", "0 1", "4 9999");
    follow(false, "draught 1", "0 1 ;", "4 9999");
    follow(false, "draught 1 1 1 1 1 1 1 1 1 1 1", "0 1 ;", "4 9999");
    follow(false, "draught 1 1 1 1 1 1 1 1 1 1 1 1", ";", "5 0 1", "4 9999");
    follow(false, "catches", "1", "4 0 9999");
    follow(false, "catches 1", ";");
    for (String begin : new String[] {"", "1 +", "1 -", "1 *", "1 <", "1 =", "1 and", "1 or", "not", "(", "( 1 +", "1 < 1 +", "not not not not"}) {
      follow(false, ("warms " + begin).trim(), PARTS);
    }
    for (String begin : new String[] {"1", "glow", "not 1", "( 1 )", "1 + 1", "1 - 1", "1 * 1", "1 and 1", "1 < 1 or 1"}) {
      follow(false, "warms " + begin, "< = + - * and or ;");
      follow(false, "warms ( " + begin, "< = + - * and or )");
    }
    for (String begin : new String[] {"1 < 1", "1 = 1", "1 < 1 + 1", "1 and 1 = 1"}) {
      follow(false, "warms " + begin, "+ - * and or ;");
      follow(false, "warms ( " + begin, "+ - * and or )");
    }
    follow(false, "warms ( ( ( ( (", "", "5 " + PARTS);
    follow(false, "warms not not not not not", "", "5 " + PARTS);
    String acts = "hour poke tongs feed bank";
    follow(true, "", "END " + acts);
    follow(true, "hour ;", "END " + acts);
    follow(true, "hour;".repeat(39), "END " + acts);
    follow(true, "hour;".repeat(40), "END", "5 " + acts);
    follow(true, "hour", ";");
    follow(true, "bank", ";");
    follow(true, "poke", "pp", "2 zz " + FACTS);
    follow(true, "poke pp", ";");
    follow(true, "tongs", "pp", "2 zz " + FACTS);
    follow(true, "tongs pp", "0 1", "4 9999");
    follow(true, "tongs pp 1", ";");
    follow(true, "feed", "pp", "2 zz " + FACTS);
    follow(true, "feed pp", "1", "4 0 9999");
    follow(true, "feed pp 1", ";");
  }

  private static void faultsByKind() {
    of("2 a NAME of no EMBER told");
    evening(2, "poke ^xx ;");
    evening(2, "tongs ^p 1 ;");
    evening(2, "feed ^ppp 1 ;");
    evening(2, "hour ; poke pp ; poke ^near");
    due("without a GRATE", Check.evening(new EmberLand(), "poke pp ;"), 2 + 16 * 5);
    EmberLand x = land(ONE);
    Check.grate(x, Check.ember("qq", "coal", 0, 1, 1));
    due("of an old GRATE", Check.evening(x, "poke pp ;"), 2 + 16 * 5);
    Check.grate(x, Check.ember("rr", "coal", 0, 1, 1) + ";");
    due("of a GRATE with a FAULT", Check.evening(x, "poke rr ;"), 2 + 16 * 5);
    due("of the GRATE that stays", Check.evening(x, "poke qq ;"), 0);
    x = land(Check.ember("a", "coal", 0, 9, 1));
    x.hour();
    due("it is ASH, but told", Check.evening(x, "poke a ; tongs a 1 ; feed a 1 ;"), 0);
    x = land(seven());
    due("each of seven", Check.evening(x, "poke a ; poke b ; poke c ; poke d ; poke e ; poke f ; poke g ;"), 0);
    due("no eighth", Check.evening(x, "poke h ;"), 2 + 16 * 5);

    of("3 a NAME told already");
    grate(3, ONE + "ember ^pp");
    grate(3, seven().substring(0, seven().lastIndexOf("ember")) + "ember ^g");
    grate(3, seven().substring(0, seven().lastIndexOf("ember")) + "ember ^b");

    of("the CELL of an EMBER in which one was told");
    grate(3, ONE + "ember qq coal at ^1");
    grate(3, ONE + "ember qq coal at ^0001");
    grate(3, seven().substring(0, seven().lastIndexOf("ember")) + "ember qq coal at ^6");
    grate(3, seven().substring(0, seven().lastIndexOf("ember")) + "ember qq coal at ^11");

    of("draught, catches, warms a second time");
    grate(3, "draught 0 ; ^draught");
    grate(3, "catches 5 ; ^catches");
    grate(3, "warms glow + near * 2 + air - 3 ; ^warms");

    of("4 a NUMBER that is not as told");
    for (String text : new String[] {"ember pp coal at ^12", "ember pp coal at 1 heat ^21", "ember pp coal at 1 heat 1 fuel ^0",
        "ember pp coal at 1 heat 1 fuel ^21", "draught ^10", "draught 1 ^10", "catches ^0", "catches ^21"}) {
      grate(4, text);
    }
    for (String text : new String[] {"tongs pp ^12", "feed pp ^0", "feed pp ^10"}) {
      evening(4, text);
    }

    of("5 one too many: the word ember of an eighth");
    grate(5, seven() + "^ember");
    grate(5, seven() + "^ember a coal at 11");
    grate(0, seven());

    of("a thirteenth NUMBER of draught");
    grate(5, "draught 0 0 0 0 0 0 0 0 0 0 0 0 ^0");
    grate(5, "draught 0 0 0 0 0 0 0 0 0 0 0 0 ^9 0 0 ;");
    grate(0, "draught 0 0 0 0 0 0 0 0 0 0 0 9 ;");

    of("the first word of a 41st line of an EVENING");
    evening(5, "poke pp;".repeat(40) + "^poke pp;");
    evening(5, "tongs pp 1;".repeat(40) + "^tongs");
    evening(0, "feed pp 1;".repeat(40));

    of("not, or a PART, within 5 others");
    grate(5, "warms not not not not not ^not 1 ;");
    grate(5, "warms not not not not not ^1 ;");
    grate(5, "warms ( ( ( ( ( ^( 1 ) ) ) ) ) ) ;");
    grate(5, "warms not ( not ( not ^left ) ) ;");
    grate(0, "warms not ( not ( left ) ) ;");
  }

  private static void anew() {
    of("Without a FAULT a GRATE is the GRATE from then on: hour 0, all as told, no ASH, not banked, no EVENING, nothing TOLD, "
        + "nothing can be undone, no MARK is there.");
    for (String next : new String[] {"", ONE, "catches 6 ; draught 3 ;", seven()}) {
      EmberLand fresh = land(next);
      EmberLand x = land("ember a coal at 4 heat 9 fuel 1 ; ember b stick at 1 heat 0 fuel 9 ; catches 4 ; draught 3 2 ; warms 7 ;");
      due("to ASH", x.hour(), 1);
      x.poke(1);
      x.tongs(1, 11);
      x.fuel(1, 3);
      x.bank();
      Check.evening(x, "hour ; poke b ;");
      x.tell(0, 0, true);
      for (int m = 0; m < 4; m++) {
        x.mark(m, false);
      }
      due("next", Check.grate(x, next), 0);
      CHECK.due("as a new object's", Check.state(x), Check.state(fresh));
      due("undo", x.undo(), false);
      for (int m = 0; m < 4; m++) {
        due("MARK " + m, x.mark(m, true), false);
      }
      due("judged(0)", x.judged(0), -1);
      due("judged(2)", x.judged(2), fresh.judged(2));
      due("which", x.which(), fresh.which());
      x.hour();
      fresh.hour();
      CHECK.due("an HOUR on", Check.state(x), Check.state(fresh));
    }

    // Of the laws ahead of it no bit is left, be it longer or shorter.
    String[] laws = {"not 5", "1", "5 + 3 + 2", "7", "not not 5", "not 0", "9", "1 + 2 * 3 - 4", "glow"};
    int[] heats = {0, 1, 10, 7, 1, 1, 9, 3, 6};
    for (int step = 1; step <= 4; step++) {
      EmberLand y = new EmberLand();
      for (int i = 0; i < 5 * laws.length; i += step) {
        Check.grate(y, Check.ember("a", "iron", 0, 6, 1) + "warms " + laws[i % laws.length] + ";");
        y.hour();
        due("the law " + laws[i % laws.length] + " behind others", y.ember(0, 2), heats[i % laws.length]);
      }
    }

    of("An EVENING is the EVENING.");
    EmberLand x = land("ember a coal at 0 heat 9 fuel 2 ;");
    due("one line", Check.evening(x, "poke a ;"), 0);
    due("it is judged", x.judged(2), 12);
    due("another", Check.evening(x, "hour ; hour ;"), 0);
    due("count(8)", x.count(8), 2);
    due("judged", x.judged(1), 1);
    String before = Check.state(x);
    due("a FAULT", Check.evening(x, "poke a ; poke a ; poke a"), 1 + 16 * 24);
    CHECK.due("the EVENING stays", Check.state(x), before);
    due("judged", x.judged(1), 1);
    due("nothing", Check.evening(x, ""), 0);
    due("no lines", x.count(8), 0);
    due("judged", x.judged(1), -1);

    of("At first: nothing.");
    x = new EmberLand();
    CHECK.due("as an empty GRATE", Check.state(x), Check.state(land("")));
    due("no EMBERS", x.count(0), 0);
    due("no EVENING", x.count(8), 0);
    due("nothing TOLD", x.count(9), 0);
    due("nothing to undo", x.count(10), 0);
    due("no signs", x.count(11), 0);
    due("no MARK", x.mark(0, true), false);
  }
}

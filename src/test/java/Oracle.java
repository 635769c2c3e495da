import java.util.ArrayList;
import java.util.Arrays;
import java.util.HashMap;
import java.util.List;
import java.util.Map;
import java.util.NoSuchElementException;
import java.util.regex.Matcher;
import java.util.regex.Pattern;

/** The document once more, written another way (maps, texts, copies), to hold EmberLand against. */
final class Oracle {
  private static final class Fault extends RuntimeException {
    private static final long serialVersionUID = 1;
    final int number;
    Fault(int kind, int place) { super(null, null, false, false); number = kind + 16 * place; }
  }

  private record Token(String text, int place, boolean word, boolean number) { }

  private record Ember(String name, String kind, int cell, int heat, int fuel) { }

  private record Line(String act, int ember, int number) { }

  private record Fact(int ember, int hours, boolean alight) { }

  /** Embers that are ash are in no map. */
  private static final class State {
    Map<Integer, Integer> cell = new HashMap<>();
    Map<Integer, Integer> heat = new HashMap<>();
    Map<Integer, Integer> fuel = new HashMap<>();
    int hour;
    boolean banked;

    State copy() {
      State s = new State();
      s.cell.putAll(cell);
      s.heat.putAll(heat);
      s.fuel.putAll(fuel);
      s.hour = hour;
      s.banked = banked;
      return s;
    }

    void drop(int e) { cell.remove(e); heat.remove(e); fuel.remove(e); }

    int at(int c) {
      for (Map.Entry<Integer, Integer> p : cell.entrySet()) if (p.getValue() == c) return p.getKey();
      return -1;
    }

    boolean here(int e) { return cell.containsKey(e); }

    int heatAll() { return heat.values().stream().mapToInt(Integer::intValue).sum(); }
  }

  private static final class Land {
    List<Ember> embers = new ArrayList<>();
    List<Integer> draught = new ArrayList<>();
    int catches = 5;
    List<Token> law = null;
  }

  private static final class Saved {
    State state;
    List<Fact> told;
  }

  private static final List<String> KINDS = List.of("coal", "stick", "slack", "iron");
  private static final List<String> RESERVED = List.of("ember", "at", "heat", "fuel", "draught", "catches", "warms",
      "hour", "poke", "tongs", "feed", "bank", "coal", "stick", "slack", "iron", "not", "and", "or");
  private static final List<String> FACTS = List.of("glow", "near", "air", "left");
  private static final Pattern TOKEN = Pattern.compile("[a-z]+|[0-9]+|[^a-z0-9 \n]");

  private String tape = "";
  private Land land = new Land();
  private List<Line> evening = new ArrayList<>();
  private State now = new State();
  private List<State> past = new ArrayList<>();
  private List<Fact> told = new ArrayList<>();
  private Saved[] marks = new Saved[4];

  // ---- reading
  private List<Token> tokens;
  private int pos;

  private void cut(String text) {
    tokens = new ArrayList<>();
    pos = 0;
    Matcher m = TOKEN.matcher(text);
    while (m.find()) {
      String t = m.group();
      boolean word = t.matches("[a-z]{1,8}");
      boolean number = t.matches("[0-9]{1,4}");
      boolean sign = t.length() == 1 && "()<=+-*;".contains(t);
      tokens.add(new Token(word || number || sign ? t : "?", m.start(), word, number));
    }
    tokens.add(new Token("END", text.length(), false, false));
  }

  private Token peek() { return tokens.get(pos); }
  private Token take() { return tokens.get(pos++); }
  private Fault fault(int kind) { return new Fault(kind, peek().place()); }
  private void want(String text) { if (!peek().text().equals(text)) throw fault(1); pos++; }

  private int number(int low, int high) {
    if (!peek().number()) throw fault(1);
    int n = Integer.parseInt(peek().text());
    if (n < low || n > high) throw fault(4);
    pos++;
    return n;
  }

  private String name() {
    if (!peek().word() || RESERVED.contains(peek().text())) throw fault(1);
    return peek().text();
  }

  private int indexOf(Land l, String name) {
    for (int i = 0; i < l.embers.size(); i++) if (l.embers.get(i).name().equals(name)) return i;
    return -1;
  }

  private Land parseGrate() {
    Land l = new Land();
    boolean catchesTold = false;
    while (!peek().text().equals("END")) {
      String first = peek().text();
      if (first.equals("ember")) {
        if (l.embers.size() == 7) throw fault(5);
        pos++;
        String name = name();
        if (indexOf(l, name) >= 0) throw fault(3);
        pos++;
        if (!KINDS.contains(peek().text())) throw fault(1);
        String kind = take().text();
        want("at");
        int at = number(0, 11);
        for (Ember e : l.embers) if (e.cell() == at) { pos--; throw fault(3); }
        want("heat");
        int heat = number(0, 20);
        want("fuel");
        int fuel = number(1, 20);
        want(";");
        l.embers.add(new Ember(name, kind, at, heat, fuel));
      } else if (first.equals("draught")) {
        if (!l.draught.isEmpty()) throw fault(3);
        pos++;
        l.draught.add(number(0, 9));
        while (peek().number()) {
          int n = number(0, 9);
          if (l.draught.size() == 12) { pos--; throw fault(5); }
          l.draught.add(n);
        }
        want(";");
      } else if (first.equals("catches")) {
        if (catchesTold) throw fault(3);
        pos++;
        l.catches = number(1, 20);
        catchesTold = true;
        want(";");
      } else if (first.equals("warms")) {
        if (l.law != null) throw fault(3);
        pos++;
        int from = pos;
        calcE(0, new int[4]);
        l.law = new ArrayList<>(tokens.subList(from, pos));
        l.law.add(new Token("END", 0, false, false));
        want(";");
      } else {
        throw fault(1);
      }
    }
    if (l.draught.isEmpty()) l.draught.add(0);
    return l;
  }

  private List<Line> parseEvening() {
    List<Line> lines = new ArrayList<>();
    while (!peek().text().equals("END")) {
      String act = peek().text();
      if (!List.of("hour", "poke", "tongs", "feed", "bank").contains(act)) throw fault(1);
      if (lines.size() == 40) throw fault(5);
      pos++;
      int e = -1;
      int n = 0;
      if (!act.equals("hour") && !act.equals("bank")) {
        e = indexOf(land, name());
        if (e < 0) throw fault(2);
        pos++;
        if (act.equals("tongs")) n = number(0, 11);
        if (act.equals("feed")) n = number(1, 9);
      }
      want(";");
      lines.add(new Line(act, e, n));
    }
    return lines;
  }

  // E is read and reckoned in one: what it reads is the same each time.
  private int calcE(int depth, int[] facts) {
    int a = calcTest(depth, facts);
    while (peek().text().equals("and") || peek().text().equals("or")) {
      boolean and = take().text().equals("and");
      int b = calcTest(depth, facts);
      a = (and ? a != 0 & b != 0 : a != 0 | b != 0) ? 1 : 0;
    }
    return a;
  }

  private int calcTest(int depth, int[] facts) {
    int a = calcSum(depth, facts);
    if (peek().text().equals("<")) { pos++; return a < calcSum(depth, facts) ? 1 : 0; }
    if (peek().text().equals("=")) { pos++; return a == calcSum(depth, facts) ? 1 : 0; }
    return a;
  }

  private int calcSum(int depth, int[] facts) {
    int a = calcProduct(depth, facts);
    while (peek().text().equals("+") || peek().text().equals("-")) {
      boolean plus = take().text().equals("+");
      int b = calcProduct(depth, facts);
      a = plus ? a + b : a - b;
    }
    return a;
  }

  private int calcProduct(int depth, int[] facts) {
    int a = calcPart(depth, facts);
    while (peek().text().equals("*")) { pos++; a *= calcPart(depth, facts); }
    return a;
  }

  private int calcPart(int depth, int[] facts) {
    String t = peek().text();
    boolean can = peek().number() || FACTS.contains(t) || t.equals("not") || t.equals("(");
    if (!can) throw fault(1);
    if (depth == 5) throw fault(5);
    Token token = take();
    if (token.number()) return Integer.parseInt(t);
    if (t.equals("not")) return calcPart(depth + 1, facts) == 0 ? 1 : 0;
    if (t.equals("(")) {
      int a = calcE(depth + 1, facts);
      want(")");
      return a;
    }
    return facts[FACTS.indexOf(t)];
  }

  // ---- the fire
  private static boolean beside(int a, int b) {
    int rows = Math.abs(a / 4 - b / 4);
    int columns = Math.abs(a % 4 - b % 4);
    return rows + columns == 1;
  }

  private boolean lit(State s, int e) {
    return s.here(e) && s.heat.get(e) >= land.catches && !land.embers.get(e).kind().equals("iron");
  }

  private int litBits(State s) {
    int bits = 0;
    for (int e = 0; e < land.embers.size(); e++) if (lit(s, e)) bits += 1 << e;
    return bits;
  }

  private int ashBits(State s) {
    int bits = 0;
    for (int e = 0; e < land.embers.size(); e++) if (!s.here(e)) bits += 1 << e;
    return bits;
  }

  private int told(State s) { return land.draught.isEmpty() ? 0 : land.draught.get(s.hour % land.draught.size()); }

  private int law(int glow, int near, int air, int left) {
    if (land.law == null) return glow + near * 2 + air - 3;
    tokens = land.law;
    pos = 0;
    return calcE(0, new int[] {glow, near, air, left});
  }

  private int pass(State s, boolean blows) {
    int n = land.embers.size();
    State old = s.copy();
    int air = old.banked || !blows ? 0 : told(old);
    for (int e = 0; e < n; e++) {
      if (!old.here(e)) continue;
      int near = 0;
      for (int f = 0; f < n; f++) {
        if (!old.here(f) || !beside(old.cell.get(e), old.cell.get(f))) continue;
        if (lit(old, f)) near++;
        else if (land.embers.get(f).kind().equals("slack")) near--;
      }
      int h = law(old.heat.get(e), near < 0 ? 0 : near, air, old.fuel.get(e));
      s.heat.put(e, h < 0 ? 0 : h > 20 ? 20 : h);
    }
    int ash = 0;
    for (int e = 0; e < n; e++) {
      if (!lit(old, e)) continue;
      int left = s.fuel.get(e) - (land.embers.get(e).kind().equals("stick") ? 2 : 1);
      s.fuel.put(e, left);
      if (left <= 0) { s.drop(e); ash += 1 << e; }
    }
    for (int c = 0; c < 12; c++) {
      int e = s.at(c);
      if (e >= 0 && c >= 4 && s.at(c - 4) < 0) s.cell.put(e, c - 4);
    }
    s.hour++;
    return ash;
  }

  private void pass(State s, int hours) { for (int i = 0; i < hours; i++) pass(s, true); }

  private boolean doPoke(State s, int e) {
    if (!s.here(e)) return false;
    s.heat.put(e, Math.min(20, s.heat.get(e) + 3));
    int c = s.cell.get(e);
    if (c >= 4 && s.at(c - 4) < 0) s.cell.put(e, c - 4);
    return true;
  }

  private boolean doTongs(State s, int e, int c) {
    if (!s.here(e) || c < 0 || c > 11 || s.at(c) >= 0) return false;
    s.cell.put(e, c);
    return true;
  }

  private boolean doFeed(State s, int e, int more) {
    if (!s.here(e) || more < 1 || more > 9) return false;
    s.fuel.put(e, Math.min(20, s.fuel.get(e) + more));
    return true;
  }

  private boolean known(int e) { return e >= 0 && e < land.embers.size(); }

  private void keep() { past.add(now.copy()); if (past.size() > 16) past.remove(0); }

  /** 41: for ever. */
  private int lastsOf(State from) {
    State s = from.copy();
    for (int h = 0; h <= 40; h++) { if (litBits(s) == 0) return h; pass(s, true); }
    return 41;
  }

  private boolean[] litRow(State from, int e, int hours) {
    boolean[] row = new boolean[hours + 1];
    State s = from.copy();
    for (int h = 0; h <= hours; h++) { row[h] = lit(s, e); pass(s, true); }
    return row;
  }

  private boolean everLit(State from, int e) {
    for (boolean b : litRow(from, e, 12)) if (b) return true;
    return false;
  }

  // ---- the face
  int feed(long a, long b, long c) {
    for (long v : new long[] {a, b, c}) {
      for (int i = 7; i >= 0; i--) {
        int s = (int) (v >> (8 * i)) & 255;
        if ((s == 10 || s >= 32 && s < 127) && tape.length() < 1000) tape += (char) s;
      }
    }
    return tape.length();
  }

  int grate() {
    String text = tape;
    tape = "";
    cut(text);
    try {
      Land l = parseGrate();
      land = l;
    } catch (Fault f) {
      return f.number;
    }
    now = new State();
    for (int e = 0; e < land.embers.size(); e++) {
      now.cell.put(e, land.embers.get(e).cell());
      now.heat.put(e, land.embers.get(e).heat());
      now.fuel.put(e, land.embers.get(e).fuel());
    }
    evening = new ArrayList<>();
    past.clear();
    told.clear();
    Arrays.fill(marks, null);
    return 0;
  }

  int evening() {
    String text = tape;
    tape = "";
    cut(text);
    try {
      evening = parseEvening();
      return 0;
    } catch (Fault f) {
      return f.number;
    }
  }

  int ember(int e, int what) {
    if (!known(e) || what < 0 || what > 4) return -2;
    if (what == 0) return KINDS.indexOf(land.embers.get(e).kind());
    if (what == 1) return now.cell.getOrDefault(e, -1);
    if (what == 2) return now.heat.getOrDefault(e, 0);
    if (what == 3) return now.fuel.getOrDefault(e, 0);
    return lit(now, e) ? 1 : 0;
  }

  int cell(int c) { return now.at(c); }
  int hour() { keep(); return pass(now, true); }

  int poke(int e) {
    if (!now.here(e)) return -1;
    keep();
    doPoke(now, e);
    return now.cell.get(e);
  }

  boolean tongs(int e, int c) {
    State s = now.copy();
    if (!doTongs(s, e, c)) return false;
    keep();
    now = s;
    return true;
  }

  int fuel(int e, int more) {
    State s = now.copy();
    if (!doFeed(s, e, more)) return -1;
    keep();
    now = s;
    return now.fuel.get(e);
  }

  boolean bank() { keep(); now.banked ^= true; return now.banked; }

  boolean undo() {
    if (past.isEmpty()) return false;
    now = past.remove(past.size() - 1);
    return true;
  }

  int judged(int what) {
    if (what < 0 || what > 2) return -2;
    State s = new State();
    for (int e = 0; e < land.embers.size(); e++) {
      s.cell.put(e, land.embers.get(e).cell());
      s.heat.put(e, land.embers.get(e).heat());
      s.fuel.put(e, land.embers.get(e).fuel());
    }
    int[] answer = {-1, -1, 0};
    for (int i = 0; i < evening.size(); i++) {
      Line l = evening.get(i);
      boolean could = true;
      boolean ash = false;
      switch (l.act()) {
        case "hour" -> ash = pass(s, true) != 0;
        case "bank" -> s.banked = !s.banked;
        case "poke" -> could = doPoke(s, l.ember());
        case "tongs" -> could = doTongs(s, l.ember(), l.number());
        default -> could = doFeed(s, l.ember(), l.number());
      }
      if (!could && answer[0] < 0) answer[0] = i;
      if (ash && answer[1] < 0) answer[1] = i;
    }
    answer[2] = s.heatAll();
    return answer[what];
  }

  int out(int e) {
    if (!known(e)) return -1;
    boolean[] row = litRow(now, e, 40);
    if (row[40]) return -1;
    for (int h = 0; h <= 40; h++) {
      boolean later = false;
      boolean before = false;
      for (int k = 0; k <= 40; k++) { if (k >= h) later |= row[k]; else before |= row[k]; }
      if (!later) return before ? h : -1;
    }
    return -1;
  }

  int lasts() { int l = lastsOf(now); return l > 40 ? -1 : l; }

  int last() {
    int best = -1;
    for (int e = 0; e < land.embers.size(); e++) if (out(e) >= 0 && (best < 0 || out(e) > out(best))) best = e;
    return best;
  }

  int peak() {
    int best = 0;
    int[] heat = new int[41];
    State s = now.copy();
    for (int h = 0; h <= 40; h++) { heat[h] = s.heatAll(); pass(s, true); if (heat[h] > heat[best]) best = h; }
    return best;
  }

  int age() { return now.heatAll() / 20; }

  int move(int what) {
    if (what != 0 && what != 1) return -1;
    int most = lastsOf(now);
    int[] best = {-1, -1};
    for (int e = 0; e < land.embers.size(); e++) {
      for (int c = 0; c < 12; c++) {
        State s = now.copy();
        if (!doTongs(s, e, c)) continue;
        int l = lastsOf(s);
        if (l > most) { most = l; best = new int[] {e, c}; }
      }
    }
    return best[what];
  }

  int banks() {
    int[] l = new int[14];
    for (int h = 0; h <= 13; h++) {
      State s = now.copy();
      l[h] = 41;
      for (int t = 0; t <= 40; t++) {
        if (t == h && h < 13) s.banked = !s.banked;
        if (litBits(s) == 0) { l[h] = t; break; }
        pass(s, true);
      }
    }
    int best = 0;
    for (int h = 1; h <= 13; h++) if (l[h] > l[best]) best = h;
    return best == 13 ? -1 : best;
  }

  int stir(int hours) {
    if (hours < 1 || hours > 12) return -1;
    int best = -1;
    int most = -1;
    for (int e = 0; e < land.embers.size(); e++) {
      State s = now.copy();
      if (!doPoke(s, e)) continue;
      pass(s, hours);
      if (s.heatAll() > most) { most = s.heatAll(); best = e; }
    }
    return best;
  }

  private List<Integer> setsBySize() {
    List<Integer> sets = new ArrayList<>();
    for (int i = 0; i < 128; i++) sets.add(i);
    sets.sort((a, b) -> Integer.bitCount(a) != Integer.bitCount(b) ? Integer.bitCount(a) - Integer.bitCount(b) : a - b);
    return sets;
  }

  int kindle() {
    for (int set : setsBySize()) {
      State s = now.copy();
      boolean good = true;
      for (int e = 0; e < 7; e++) {
        if ((set >> e & 1) == 0) continue;
        if (!now.here(e) || land.embers.get(e).kind().equals("iron")) good = false;
        else s.heat.put(e, 20);
      }
      for (int e = 0; e < land.embers.size() && good; e++) {
        if (now.here(e) && !land.embers.get(e).kind().equals("iron")) good = everLit(s, e);
      }
      if (good) return set;
    }
    return -1;
  }

  int save(int ember) {
    if (!now.here(ember)) return -1;
    for (int set : setsBySize()) {
      State s = now.copy();
      boolean good = (set >> ember & 1) == 0;
      for (int e = 0; e < 7; e++) {
        if ((set >> e & 1) == 0) continue;
        good &= s.here(e);
        s.drop(e);
      }
      if (good && !everLit(s, ember)) return set;
    }
    return -1;
  }

  boolean tell(int e, int hours, boolean alight) {
    if (!known(e) || hours < 0 || hours > 12 || told.size() >= 6) return false;
    told.add(new Fact(e, hours, alight));
    return true;
  }

  private boolean litIf(int given, int e, int hours) {
    State s = now.copy();
    s.heat.put(given, 20);
    pass(s, hours);
    return lit(s, e);
  }

  int which() {
    int bits = 0;
    for (int e = 0; e < land.embers.size(); e++) {
      if (!now.here(e)) continue;
      boolean all = true;
      for (Fact f : told) all &= litIf(e, f.ember(), f.hours()) == f.alight();
      if (all) bits += 1 << e;
    }
    return bits;
  }

  int look(int hours) {
    if (hours < 0 || hours > 12) return -1;
    int which = which();
    int all = Integer.bitCount(which);
    int best = -1;
    int least = all;
    for (int e = 0; e < land.embers.size(); e++) {
      int yes = 0;
      int no = 0;
      for (int w = 0; w < 7; w++) if ((which >> w & 1) == 1) { if (litIf(w, e, hours)) yes++; else no++; }
      int most = Math.max(yes, no);
      if (most < least) { least = most; best = e; }
    }
    return best;
  }

  private long chanceFrom(State s, int e, int hours, int odds) {
    if (hours == 0) return lit(s, e) ? 1 : 0;
    State a = s.copy();
    pass(a, true);
    State b = s.copy();
    pass(b, false);
    return odds * chanceFrom(a, e, hours - 1, odds) + (10 - odds) * chanceFrom(b, e, hours - 1, odds);
  }

  int chance(int e, int hours, int odds) {
    if (!known(e) || hours < 1 || hours > 6 || odds < 0 || odds > 10) return -1;
    long whole = 1;
    for (int i = 0; i < hours; i++) whole *= 10;
    return (int) (chanceFrom(now, e, hours, odds) * 1000000 / whole);
  }

  private boolean touches(int a, int b) {
    return now.here(a) && now.here(b) && beside(now.cell.get(a), now.cell.get(b));
  }

  int touch(int e) {
    if (!now.here(e)) return -1;
    int bits = 0;
    for (int f = 0; f < 7; f++) if (touches(e, f)) bits += 1 << f;
    return bits;
  }

  private int flood(int e, int seen) {
    if ((seen >> e & 1) == 1) return seen;
    int bits = seen | 1 << e;
    for (int f = 0; f < 7; f++) if (touches(e, f)) bits = flood(f, bits);
    return bits;
  }

  int hall(int e) { return now.here(e) ? flood(e, 0) : -1; }

  int halls() {
    List<Integer> found = new ArrayList<>();
    for (int e = 0; e < 7; e++) if (now.here(e) && !found.contains(hall(e))) found.add(hall(e));
    return found.size();
  }

  int tower() {
    int most = 0;
    for (int c = 0; c < 4; c++) {
      int high = now.at(c) < 0 ? 0 : now.at(c + 4) < 0 ? 1 : now.at(c + 8) < 0 ? 2 : 3;
      most = Math.max(most, high);
    }
    return most;
  }

  int alight(int hours) {
    if (hours < 0 || hours > 40) return -1;
    State s = now.copy();
    pass(s, hours);
    return litBits(s);
  }

  int caught(int e) {
    if (!known(e)) return -1;
    boolean[] row = litRow(now, e, 40);
    for (int h = 0; h <= 40; h++) if (row[h]) return h;
    return -1;
  }

  int ash(int hours) {
    if (hours < 0 || hours > 40) return -1;
    State s = now.copy();
    pass(s, hours);
    return ashBits(s);
  }

  int falls() {
    State s = now.copy();
    pass(s, true);
    int bits = 0;
    for (int e = 0; e < 7; e++) if (s.here(e) && !s.cell.get(e).equals(now.cell.get(e))) bits += 1 << e;
    return bits;
  }

  int spare(int e) {
    if (!now.here(e)) return -1000;
    State s = now.copy();
    s.drop(e);
    return lastsOf(now) - lastsOf(s);
  }

  int lone() {
    int bits = 0;
    for (int e = 0; e < 7; e++) if (now.here(e) && touch(e) == 0) bits += 1 << e;
    return bits;
  }

  int warmest() {
    int best = -1;
    int most = 0;
    for (int c = 0; c < 12; c++) {
      if (now.at(c) >= 0) continue;
      int sum = 0;
      for (int d = 0; d < 12; d++) if (beside(c, d) && now.at(d) >= 0) sum += now.heat.get(now.at(d));
      if (sum > most) { most = sum; best = c; }
    }
    return best;
  }

  int rests(int both, int loses, int gets, int what) {
    if (both < 0 || both > 9 || loses < 0 || loses > 9 || gets < 0 || gets > 9) throw new NoSuchElementException();
    int[][] pay = {{0, gets}, {-loses, both}};
    List<Integer> rests = new ArrayList<>();
    for (int a = 0; a < 2; a++) {
      for (int b = 0; b < 2; b++) {
        if (pay[1 - a][b] <= pay[a][b] && pay[1 - b][a] <= pay[b][a]) rests.add(2 * a + b);
      }
    }
    if (what == -1) return rests.size();
    if (what < 0 || what >= rests.size()) throw new NoSuchElementException();
    return rests.get(what);
  }

  private long seed;

  private int draw(int m) {
    seed = (seed * 1103515245L + 12345L) % 2147483648L;
    return (int) (seed / 65536 % m);
  }

  int winters(int seed, int hours, int what) {
    if (seed < 0 || seed > 9999 || hours < 1 || hours > 99 || what < 0 || what > 2) return -1;
    this.seed = seed;
    State s = now.copy();
    int n = land.embers.size();
    int ash = 0;
    for (int h = 0; h < hours; h++) {
      if (n > 0) {
        int d = draw(4);
        if (d == 0) {
          doPoke(s, draw(n));
        } else if (d == 1) {
          int e = draw(n);
          int more = draw(9) + 1;
          doFeed(s, e, more);
        }
      }
      ash += Integer.bitCount(pass(s, true));
    }
    return what == 0 ? ash : what == 1 ? Integer.bitCount(litBits(s)) : s.heatAll();
  }

  boolean mark(int mark, boolean back) {
    if (mark < 0 || mark > 3) return false;
    if (back) {
      if (marks[mark] == null) return false;
      now = marks[mark].state.copy();
      told = new ArrayList<>(marks[mark].told);
      past.clear();
      return true;
    }
    marks[mark] = new Saved();
    marks[mark].state = now.copy();
    marks[mark].told = new ArrayList<>(told);
    return true;
  }

  int count(int what) {
    switch (what) {
      case 0: return land.embers.size();
      case 1: return land.catches;
      case 2: return now.hour;
      case 3: return told(now);
      case 4: return now.banked ? 1 : 0;
      case 5: return now.heatAll();
      case 6: return now.fuel.values().stream().mapToInt(Integer::intValue).sum();
      case 7: return ashBits(now);
      case 8: return evening.size();
      case 9: return told.size();
      case 10: return past.size();
      case 11: return tape.length();
      default: return -1;
    }
  }
}

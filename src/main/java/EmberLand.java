import java.util.NoSuchElementException;

/** A land of embers: a grate that is told in a language, and what becomes of its fire. */
public final class EmberLand {
    public static final int NONE = -1;

    private static final int OTHERS = -2;
    private static final int NO_SPARE = -1000;
    private static final int EMBERS = 7;
    private static final int CELLS = 12;
    private static final int ROW = 4;
    private static final int SIGNS = 1000;
    private static final int LINES = 40;
    private static final int DRAUGHTS = 12;
    private static final int DEPTH = 5;
    private static final int FULL = 20;
    private static final int POKE_HEAT = 3;
    private static final int MOST_FED = 9;
    private static final int AGE_HEAT = 20;
    private static final int LONG_VIEW = 40;
    private static final int SHORT_VIEW = 12;
    private static final int FOR_EVER = 41;
    private static final int UNDONE = 16;
    private static final int MARKS = 4;
    private static final int TOLD = 6;
    private static final int CHANCE_HOURS = 6;
    private static final int WINTER_HOURS = 99;
    private static final int LAST_SEED = 9999;
    private static final int MOST_GAIN = 9;

    private static final int COAL = 0;
    private static final int STICK = 1;
    private static final int SLACK = 2;
    private static final int IRON = 3;

    private static final int OUT_OF_PLACE = 1;
    private static final int UNKNOWN = 2;
    private static final int TWICE = 3;
    private static final int NOT_AS_TOLD = 4;
    private static final int TOO_MANY = 5;

    /** For each CELL the bits of those beside, above and below it. */
    private static final int[] BESIDE = {
        0x012, 0x025, 0x04A, 0x084,
        0x121, 0x252, 0x4A4, 0x848,
        0x210, 0x520, 0xA40, 0x480
    };

    private final Tape tape = new Tape();
    private final Reader reader = new Reader(tape);
    private final Fire now = new Fire();
    private final Told told = new Told();
    private final Past past = new Past();
    private final Foresight foresight = new Foresight();
    private final Riddle riddle = new Riddle();
    // What is read goes into the spare one, so that a FAULT leaves all as it was.
    private Grate grate = new Grate();
    private Grate spareGrate = new Grate();
    private Evening evening = new Evening();
    private Evening spareEvening = new Evening();

    public EmberLand() {
        // All rows are made here, once; no call makes another.
    }

    public int feed(long a, long b, long c) {
        tape.put(a);
        tape.put(b);
        tape.put(c);
        return tape.length;
    }

    public int grate() {
        int fault = reader.readGrate(spareGrate);
        tape.empty();
        if (fault == 0) {
            Grate read = spareGrate;
            spareGrate = grate;
            grate = read;
            beginAnew();
        }
        return fault;
    }

    public int evening() {
        int fault = reader.readEvening(spareEvening, grate);
        tape.empty();
        if (fault == 0) {
            Evening read = spareEvening;
            spareEvening = evening;
            evening = read;
        }
        return fault;
    }

    public int ember(int ember, int what) {
        if (!isEmber(ember)) {
            return OTHERS;
        }
        switch (what) {
            case 0:
                return grate.kind[ember];
            case 1:
                return now.cell[ember];
            case 2:
                return now.heat[ember];
            case 3:
                return now.fuel[ember];
            case 4:
                return now.litBits(grate) >> ember & 1;
            default:
                return OTHERS;
        }
    }

    public int cell(int cell) {
        return isCell(cell) ? now.lies[cell] : NONE;
    }

    public int hour() {
        past.keep(now);
        return now.pass(grate, true);
    }

    public int poke(int ember) {
        if (!now.has(ember)) {
            return NONE;
        }
        past.keep(now);
        now.stoke(ember);
        return now.cell[ember];
    }

    public boolean tongs(int ember, int cell) {
        if (!now.has(ember) || !now.isFree(cell)) {
            return false;
        }
        past.keep(now);
        now.carry(ember, cell);
        return true;
    }

    public int fuel(int ember, int more) {
        if (!now.has(ember) || more < 1 || more > MOST_FED) {
            return NONE;
        }
        past.keep(now);
        now.addFuel(ember, more);
        return now.fuel[ember];
    }

    public boolean bank() {
        past.keep(now);
        now.banked = !now.banked;
        return now.banked;
    }

    public boolean undo() {
        return past.bringBack(now);
    }

    public int judged(int what) {
        return what < 0 || what > 2 ? OTHERS : foresight.judge(grate, evening, what);
    }

    public int out(int ember) {
        if (!isEmber(ember)) {
            return NONE;
        }
        foresight.watch(grate, now);
        return foresight.outOf(ember);
    }

    public int lasts() {
        int hours = foresight.lastsNow(grate, now);
        return hours == FOR_EVER ? NONE : hours;
    }

    public int last() {
        return foresight.longest(grate, now);
    }

    public int peak() {
        return foresight.hottestHour(grate, now);
    }

    public int age() {
        return now.heatOfAll() / AGE_HEAT;
    }

    public int move(int what) {
        if (what < 0 || what > 1) {
            return NONE;
        }
        int best = foresight.bestMove(grate, now);
        if (best == NONE) {
            return NONE;
        }
        return what == 0 ? best / CELLS : best % CELLS;
    }

    public int banks() {
        return foresight.bestBanking(grate, now);
    }

    public int stir(int hours) {
        return hours < 1 || hours > SHORT_VIEW ? NONE : foresight.bestPoke(grate, now, hours);
    }

    public int kindle() {
        return riddle.fewestLit(grate, now);
    }

    public int save(int ember) {
        return now.has(ember) ? riddle.fewestTaken(grate, now, ember) : NONE;
    }

    public boolean tell(int ember, int hours, boolean alight) {
        if (!isEmber(ember) || hours < 0 || hours > SHORT_VIEW) {
            return false;
        }
        return told.add(ember, hours, alight);
    }

    public int which() {
        return riddle.suspects(grate, now, told);
    }

    public int look(int hours) {
        return hours < 0 || hours > SHORT_VIEW ? NONE : riddle.bestLook(grate, now, told, hours);
    }

    public int chance(int ember, int hours, int odds) {
        if (!isEmber(ember) || hours < 1 || hours > CHANCE_HOURS || odds < 0 || odds > 10) {
            return NONE;
        }
        return riddle.millionths(grate, now, ember, hours, odds);
    }

    public int touch(int ember) {
        return now.has(ember) ? now.touching(ember) : NONE;
    }

    public int hall(int ember) {
        return now.has(ember) ? now.hangingWith(ember) : NONE;
    }

    public int halls() {
        int halls = 0;
        for (int e = 0; e < EMBERS; e++) {
            // Each hall is counted once: at its first EMBER.
            if (now.has(e) && (now.hangingWith(e) & (1 << e) - 1) == 0) {
                halls++;
            }
        }
        return halls;
    }

    public int tower() {
        int most = 0;
        for (int column = 0; column < ROW; column++) {
            most = Math.max(most, now.stackOf(column));
        }
        return most;
    }

    public int alight(int hours) {
        return isLongView(hours) ? foresight.behind(grate, now, hours).litBits(grate) : NONE;
    }

    public int caught(int ember) {
        if (!isEmber(ember)) {
            return NONE;
        }
        foresight.watch(grate, now);
        return foresight.firstLit(ember);
    }

    public int ash(int hours) {
        return isLongView(hours) ? foresight.behind(grate, now, hours).ashBits(grate) : NONE;
    }

    public int falls() {
        return foresight.nextFalls(grate, now);
    }

    public int spare(int ember) {
        return now.has(ember) ? foresight.gainBy(grate, now, ember) : NO_SPARE;
    }

    public int lone() {
        int lone = 0;
        for (int e = 0; e < EMBERS; e++) {
            if (now.has(e) && now.touching(e) == 0) {
                lone |= 1 << e;
            }
        }
        return lone;
    }

    public int warmest() {
        int best = NONE;
        int most = 0;
        for (int c = 0; c < CELLS; c++) {
            int heat = now.isFree(c) ? now.heatBeside(c) : 0;
            if (heat > most) {
                most = heat;
                best = c;
            }
        }
        return best;
    }

    public int rests(int both, int loses, int gets, int what) throws NoSuchElementException {
        if (!isGain(both) || !isGain(loses) || !isGain(gets)) {
            throw new NoSuchElementException();
        }
        int found = 0;
        for (int choices = 0; choices < 4; choices++) {
            if (!isAtRest(both, loses, gets, choices)) {
                continue;
            }
            if (found == what) {
                return choices;
            }
            found++;
        }
        if (what != NONE) {
            throw new NoSuchElementException();
        }
        return found;
    }

    public int winters(int seed, int hours, int what) {
        if (seed < 0 || seed > LAST_SEED || hours < 1 || hours > WINTER_HOURS || what < 0 || what > 2) {
            return NONE;
        }
        return foresight.winter(grate, now, seed, hours, what);
    }

    public boolean mark(int mark, boolean back) {
        return back ? past.goBack(mark, now, told) : past.lay(mark, now, told);
    }

    public int count(int what) {
        switch (what) {
            case 0:
                return grate.embers;
            case 1:
                return grate.catches;
            case 2:
                return now.hour;
            case 3:
                return grate.draughtAt(now.hour);
            case 4:
                return now.banked ? 1 : 0;
            case 5:
                return now.heatOfAll();
            case 6:
                return now.fuelOfAll();
            case 7:
                return now.ashBits(grate);
            case 8:
                return evening.lines;
            case 9:
                return told.size;
            case 10:
                return past.size;
            case 11:
                return tape.length;
            default:
                return NONE;
        }
    }

    private void beginAnew() {
        now.become(grate.begin);
        evening.forget();
        told.forget();
        past.forget();
    }

    private boolean isEmber(int ember) {
        return ember >= 0 && ember < grate.embers && ember < EMBERS;
    }

    private static boolean isCell(int cell) {
        return cell >= 0 && cell < CELLS;
    }

    private static boolean isLongView(int hours) {
        return hours >= 0 && hours <= LONG_VIEW;
    }

    private static boolean isGain(int gain) {
        return gain >= 0 && gain <= MOST_GAIN;
    }

    /** Choices: 2 * the first one's + the other one's, 1 feeds. */
    private static boolean isAtRest(int both, int loses, int gets, int choices) {
        boolean first = choices >> 1 == 1;
        boolean other = (choices & 1) == 1;
        return !gainsByTurning(both, loses, gets, first, other)
            && !gainsByTurning(both, loses, gets, other, first);
    }

    private static boolean gainsByTurning(int both, int loses, int gets, boolean own, boolean his) {
        return gainOf(both, loses, gets, !own, his) > gainOf(both, loses, gets, own, his);
    }

    private static int gainOf(int both, int loses, int gets, boolean own, boolean his) {
        if (own) {
            return his ? both : -loses;
        }
        return his ? gets : 0;
    }

    /** The words that the language knows, and two for all else: another word, and no word at all. */
    private enum Key {
        EMBER("ember", false, NONE),
        AT("at", false, NONE),
        HEAT("heat", false, NONE),
        FUEL("fuel", false, NONE),
        DRAUGHT("draught", false, NONE),
        CATCHES("catches", false, NONE),
        WARMS("warms", false, NONE),
        HOUR("hour", false, NONE),
        POKE("poke", false, NONE),
        TONGS("tongs", false, NONE),
        FEED("feed", false, NONE),
        BANK("bank", false, NONE),
        COAL_KIND("coal", false, COAL),
        STICK_KIND("stick", false, STICK),
        SLACK_KIND("slack", false, SLACK),
        IRON_KIND("iron", false, IRON),
        NOT("not", false, NONE),
        AND("and", false, NONE),
        OR("or", false, NONE),
        // The facts are not kept from being NAMES.
        GLOW("glow", true, NONE),
        NEAR("near", true, NONE),
        AIR("air", true, NONE),
        LEFT("left", true, NONE),
        OTHER_WORD("", true, NONE),
        NO_WORD("", false, NONE);

        private static final Key[] ALL = values();

        final long letters;
        final boolean canName;
        final int kind;

        Key(String text, boolean canName, int kind) {
            long packed = 0;
            for (int i = 0; i < text.length(); i++) {
                packed = withLetter(packed, text.charAt(i));
            }
            this.letters = packed;
            this.canName = canName;
            this.kind = kind;
        }

        /** A WORD of up to 8 letters as one number; no two WORDS have the same. */
        static long withLetter(long packed, int letter) {
            return packed * 32 + (letter - 'a' + 1);
        }

        static Key ofLetters(long letters) {
            for (int i = 0; i < ALL.length; i++) {
                if (ALL[i].letters == letters) {
                    return ALL[i];
                }
            }
            return OTHER_WORD;
        }
    }

    /** The signs that were fed, and the token among them that is looked at. */
    private static final class Tape {
        static final int END = 0;
        static final int NOTHING = 1;
        static final int WORD = 2;
        static final int NUMBER = 3;
        static final int SIGN = 4;

        private static final int BLANK = 32;
        private static final int NEW_LINE = 10;
        private static final int LAST_SIGN = 126;
        private static final int MOST_LETTERS = 8;
        private static final int MOST_DIGITS = 4;

        final int[] sign = new int[SIGNS];
        int length;

        int token;
        int place;
        int value;
        long letters;
        Key key = Key.NO_WORD;
        private int behind;

        void put(long bytes) {
            for (int shift = 56; shift >= 0; shift -= 8) {
                int s = (int) (bytes >>> shift & 255);
                boolean counts = s == NEW_LINE || s >= BLANK && s <= LAST_SIGN;
                if (counts && length < SIGNS) {
                    sign[length] = s;
                    length++;
                }
            }
        }

        void empty() {
            length = 0;
        }

        void toFirst() {
            behind = 0;
            toNext();
        }

        void toNext() {
            int end = Math.min(length, SIGNS);
            int at = Math.max(0, behind);
            while (at < end && isBlank(sign[at])) {
                at++;
            }
            place = at;
            value = 0;
            letters = 0;
            if (at >= end) {
                token = END;
            } else if (isLetter(sign[at])) {
                while (at < end && isLetter(sign[at])) {
                    letters = Key.withLetter(letters, sign[at]);
                    at++;
                }
                token = at - place > MOST_LETTERS ? NOTHING : WORD;
            } else if (isDigit(sign[at])) {
                while (at < end && isDigit(sign[at])) {
                    value = value * 10 + (sign[at] - '0');
                    at++;
                }
                token = at - place > MOST_DIGITS ? NOTHING : NUMBER;
            } else {
                value = sign[at];
                token = isOwnSign(value) ? SIGN : NOTHING;
                at++;
            }
            behind = at;
            key = token == WORD ? Key.ofLetters(letters) : Key.NO_WORD;
        }

        boolean isSign(int wanted) {
            return token == SIGN && value == wanted;
        }

        private static boolean isBlank(int s) {
            return s == BLANK || s == NEW_LINE;
        }

        private static boolean isLetter(int s) {
            return s >= 'a' && s <= 'z';
        }

        private static boolean isDigit(int s) {
            return s >= '0' && s <= '9';
        }

        private static boolean isOwnSign(int s) {
            return s == '(' || s == ')' || s == '<' || s == '=' || s == '+' || s == '-' || s == '*' || s == ';';
        }
    }

    /** Reads the TAPE from the left and stops at the first token that is wrong. */
    private static final class Reader {
        private static final int LEVELS = 4;

        private final Tape tape;
        private int fault;

        Reader(Tape tape) {
            this.tape = tape;
        }

        int readGrate(Grate grate) {
            grate.forget();
            tape.toFirst();
            // A line takes a sign at least, so there are no more lines than signs.
            for (int line = 0; line < SIGNS && tape.token != Tape.END; line++) {
                if (!grateLine(grate)) {
                    return fault;
                }
            }
            return 0;
        }

        int readEvening(Evening evening, Grate grate) {
            evening.forget();
            tape.toFirst();
            for (int line = 0; line <= LINES && tape.token != Tape.END; line++) {
                if (!eveningLine(evening, grate)) {
                    return fault;
                }
            }
            return 0;
        }

        private boolean wrong(int kind) {
            fault = kind + 16 * tape.place;
            return false;
        }

        private boolean takeKey(Key key) {
            if (tape.key != key) {
                return wrong(OUT_OF_PLACE);
            }
            tape.toNext();
            return true;
        }

        private boolean takeSign(int sign) {
            if (!tape.isSign(sign)) {
                return wrong(OUT_OF_PLACE);
            }
            tape.toNext();
            return true;
        }

        /** The NUMBER, or NONE with a FAULT. */
        private int takeNumber(int least, int most) {
            if (tape.token != Tape.NUMBER) {
                wrong(OUT_OF_PLACE);
                return NONE;
            }
            int number = tape.value;
            if (number < least || number > most) {
                wrong(NOT_AS_TOLD);
                return NONE;
            }
            tape.toNext();
            return number;
        }

        private boolean grateLine(Grate grate) {
            if (tape.key == Key.EMBER) {
                return grate.embers >= EMBERS ? wrong(TOO_MANY) : emberLine(grate);
            }
            if (tape.key == Key.DRAUGHT) {
                return grate.draughts > 0 ? wrong(TWICE) : draughtLine(grate);
            }
            if (tape.key == Key.CATCHES) {
                return grate.catchesTold ? wrong(TWICE) : catchesLine(grate);
            }
            if (tape.key == Key.WARMS) {
                if (grate.law.length > 0) {
                    return wrong(TWICE);
                }
                tape.toNext();
                return joined(grate.law, 0, 0) && takeSign(';');
            }
            return wrong(OUT_OF_PLACE);
        }

        private boolean emberLine(Grate grate) {
            tape.toNext();
            if (!tape.key.canName) {
                return wrong(OUT_OF_PLACE);
            }
            long name = tape.letters;
            if (grate.emberNamed(name) != NONE) {
                return wrong(TWICE);
            }
            tape.toNext();
            int kind = tape.key.kind;
            if (kind == NONE) {
                return wrong(OUT_OF_PLACE);
            }
            tape.toNext();
            if (!takeKey(Key.AT)) {
                return false;
            }
            if (tape.token == Tape.NUMBER && isCell(tape.value) && !grate.begin.isFree(tape.value)) {
                return wrong(TWICE);
            }
            int cell = takeNumber(0, CELLS - 1);
            if (cell == NONE) {
                return false;
            }
            int heat = takeKey(Key.HEAT) ? takeNumber(0, FULL) : NONE;
            if (heat == NONE) {
                return false;
            }
            int fuel = takeKey(Key.FUEL) ? takeNumber(1, FULL) : NONE;
            if (fuel == NONE || !takeSign(';')) {
                return false;
            }
            grate.addEmber(name, kind);
            grate.begin.lay(grate.embers - 1, cell, heat, fuel);
            return true;
        }

        private boolean draughtLine(Grate grate) {
            tape.toNext();
            for (int i = 0; i <= DRAUGHTS && !(i > 0 && tape.isSign(';')); i++) {
                boolean tooMany = i == DRAUGHTS && tape.token == Tape.NUMBER && tape.value <= 9;
                if (tooMany) {
                    return wrong(TOO_MANY);
                }
                int draught = takeNumber(0, 9);
                if (draught == NONE) {
                    return false;
                }
                grate.addDraught(draught);
            }
            return takeSign(';');
        }

        private boolean catchesLine(Grate grate) {
            tape.toNext();
            int catches = takeNumber(1, FULL);
            if (catches == NONE) {
                return false;
            }
            grate.catches = catches;
            grate.catchesTold = true;
            return takeSign(';');
        }

        /** What the signs of a level join: 0: and or; 1: < =, once; 2: + -; 3: *; at level 4 a PART. */
        private boolean joined(Law law, int level, int depth) {
            if (level >= LEVELS) {
                return part(law, depth);
            }
            if (!joined(law, level + 1, depth)) {
                return false;
            }
            int most = level == 1 ? 1 : SIGNS;
            for (int i = 0; i < most && levelHere() == level; i++) {
                int step = stepHere();
                tape.toNext();
                if (!joined(law, level + 1, depth)) {
                    return false;
                }
                law.add(step);
            }
            return true;
        }

        /** The level at which the token joins, or NONE. */
        private int levelHere() {
            if (tape.key == Key.AND || tape.key == Key.OR) {
                return 0;
            }
            if (tape.isSign('<') || tape.isSign('=')) {
                return 1;
            }
            if (tape.isSign('+') || tape.isSign('-')) {
                return 2;
            }
            return tape.isSign('*') ? 3 : NONE;
        }

        private int stepHere() {
            if (tape.token == Tape.SIGN) {
                return -tape.value;
            }
            return tape.key == Key.AND ? Law.AND : Law.OR;
        }

        /** Depth: how many of not and ( ) the PART lies in. */
        private boolean part(Law law, int depth) {
            boolean not = tape.key == Key.NOT;
            boolean opens = tape.isSign('(');
            boolean number = tape.token == Tape.NUMBER;
            int fact = Law.ofFact(tape.key);
            if (!not && !opens && !number && fact == 0) {
                return wrong(OUT_OF_PLACE);
            }
            if (depth >= DEPTH) {
                return wrong(TOO_MANY);
            }
            int step = number ? tape.value : fact;
            tape.toNext();
            if (not) {
                if (!part(law, depth + 1)) {
                    return false;
                }
                law.add(Law.NOT);
                return true;
            }
            if (opens) {
                return joined(law, 0, depth + 1) && takeSign(')');
            }
            law.add(step);
            return true;
        }

        private boolean eveningLine(Evening evening, Grate grate) {
            int act = Evening.actOf(tape.key);
            if (act == NONE) {
                return wrong(OUT_OF_PLACE);
            }
            if (evening.lines >= LINES) {
                return wrong(TOO_MANY);
            }
            tape.toNext();
            int ember = NONE;
            if (Evening.hasEmber(act)) {
                ember = takeEmber(grate);
                if (ember == NONE) {
                    return false;
                }
            }
            int number = 0;
            if (act == Evening.TONGS) {
                number = takeNumber(0, CELLS - 1);
            } else if (act == Evening.FEED) {
                number = takeNumber(1, MOST_FED);
            }
            if (number == NONE || !takeSign(';')) {
                return false;
            }
            evening.add(act, ember, number);
            return true;
        }

        /** The EMBER of a NAME, or NONE with a FAULT. */
        private int takeEmber(Grate grate) {
            if (!tape.key.canName) {
                wrong(OUT_OF_PLACE);
                return NONE;
            }
            int ember = grate.emberNamed(tape.letters);
            if (ember == NONE) {
                wrong(UNKNOWN);
                return NONE;
            }
            tape.toNext();
            return ember;
        }
    }

    /** The E of warms, as steps over a heap of numbers: a NUMBER, or below 0 a fact, a word or minus a sign. */
    private static final class Law {
        static final int NOT = -5;
        static final int AND = -6;
        static final int OR = -7;

        private static final int GLOW = -1;
        private static final int NEAR = -2;
        private static final int AIR = -3;
        private static final int LEFT = -4;
        private static final int FACTS = 4;
        // At each of the 5 depths 4 numbers at most wait: for and or, for < =, for + -, for *.
        private static final int HEAP = 4 * DEPTH + 4;

        private final int[] steps = new int[SIGNS];
        private final int[] facts = new int[FACTS];
        private final int[] heap = new int[HEAP];
        int length;

        /** The step of a fact, or 0. */
        static int ofFact(Key key) {
            if (key == Key.GLOW) {
                return GLOW;
            }
            if (key == Key.NEAR) {
                return NEAR;
            }
            if (key == Key.AIR) {
                return AIR;
            }
            return key == Key.LEFT ? LEFT : 0;
        }

        void add(int step) {
            if (length < SIGNS) {
                steps[length] = step;
                length++;
            }
        }

        int tells(int glow, int near, int air, int left) {
            if (length == 0) {
                return glow + near * 2 + air - 3;
            }
            facts[-1 - GLOW] = glow;
            facts[-1 - NEAR] = near;
            facts[-1 - AIR] = air;
            facts[-1 - LEFT] = left;
            int top = 0;
            for (int i = 0; i < length && i < SIGNS; i++) {
                int step = steps[i];
                if (step >= LEFT) {
                    if (top < HEAP) {
                        heap[top] = step >= 0 ? step : facts[-1 - step];
                        top++;
                    }
                } else if (step == NOT) {
                    if (top >= 1) {
                        heap[top - 1] = heap[top - 1] == 0 ? 1 : 0;
                    }
                } else if (top >= 2) {
                    top--;
                    heap[top - 1] = join(step, heap[top - 1], heap[top]);
                }
            }
            return heap[0];
        }

        private static int join(int step, int a, int b) {
            switch (step) {
                case -'+':
                    return a + b;
                case -'-':
                    return a - b;
                case -'*':
                    return a * b;
                case -'<':
                    return a < b ? 1 : 0;
                case -'=':
                    return a == b ? 1 : 0;
                case AND:
                    return a != 0 && b != 0 ? 1 : 0;
                default:
                    return a != 0 || b != 0 ? 1 : 0;
            }
        }
    }

    /** What was told of a GRATE. */
    private static final class Grate {
        private static final int USUAL_CATCHES = 5;

        final long[] name = new long[EMBERS];
        final int[] kind = new int[EMBERS];
        final Fire begin = new Fire();
        final Law law = new Law();
        int embers;
        int catches = USUAL_CATCHES;
        boolean catchesTold;
        int draughts;
        private final int[] draught = new int[DRAUGHTS];

        void forget() {
            begin.clear();
            law.length = 0;
            embers = 0;
            catches = USUAL_CATCHES;
            catchesTold = false;
            draughts = 0;
        }

        void addEmber(long itsName, int itsKind) {
            if (embers < EMBERS) {
                name[embers] = itsName;
                kind[embers] = itsKind;
                embers++;
            }
        }

        void addDraught(int strength) {
            if (draughts < DRAUGHTS) {
                draught[draughts] = strength;
                draughts++;
            }
        }

        int emberNamed(long letters) {
            for (int e = 0; e < embers && e < EMBERS; e++) {
                if (name[e] == letters) {
                    return e;
                }
            }
            return NONE;
        }

        int draughtAt(int hour) {
            if (draughts <= 0 || hour < 0) {
                return 0;
            }
            int i = hour % draughts;
            return i < DRAUGHTS ? draught[i] : 0;
        }
    }

    /** The lines of an EVENING. */
    private static final class Evening {
        static final int HOUR = 0;
        static final int POKE = 1;
        static final int TONGS = 2;
        static final int FEED = 3;
        static final int BANK = 4;

        final int[] act = new int[LINES];
        final int[] ember = new int[LINES];
        final int[] number = new int[LINES];
        int lines;

        static int actOf(Key key) {
            if (key == Key.HOUR) {
                return HOUR;
            }
            if (key == Key.POKE) {
                return POKE;
            }
            if (key == Key.TONGS) {
                return TONGS;
            }
            if (key == Key.FEED) {
                return FEED;
            }
            return key == Key.BANK ? BANK : NONE;
        }

        static boolean hasEmber(int act) {
            return act == POKE || act == TONGS || act == FEED;
        }

        void forget() {
            lines = 0;
        }

        void add(int itsAct, int itsEmber, int itsNumber) {
            if (lines < LINES) {
                act[lines] = itsAct;
                ember[lines] = itsEmber;
                number[lines] = itsNumber;
                lines++;
            }
        }
    }

    /** How the EMBERS lie and glow at one time: all that UNDO brings back. */
    private static final class Fire {
        final int[] cell = new int[EMBERS];
        final int[] heat = new int[EMBERS];
        final int[] fuel = new int[EMBERS];
        final int[] lies = new int[CELLS];
        int hour;
        boolean banked;

        Fire() {
            for (int e = 0; e < EMBERS; e++) {
                cell[e] = NONE;
            }
            for (int c = 0; c < CELLS; c++) {
                lies[c] = NONE;
            }
        }

        void clear() {
            for (int e = 0; e < EMBERS; e++) {
                takeOut(e);
            }
            hour = 0;
            banked = false;
        }

        void become(Fire other) {
            System.arraycopy(other.cell, 0, cell, 0, EMBERS);
            System.arraycopy(other.heat, 0, heat, 0, EMBERS);
            System.arraycopy(other.fuel, 0, fuel, 0, EMBERS);
            System.arraycopy(other.lies, 0, lies, 0, CELLS);
            hour = other.hour;
            banked = other.banked;
        }

        boolean has(int ember) {
            return ember >= 0 && ember < EMBERS && cell[ember] >= 0 && cell[ember] < CELLS;
        }

        boolean isFree(int c) {
            return c >= 0 && c < CELLS && lies[c] == NONE;
        }

        void lay(int ember, int c, int itsHeat, int itsFuel) {
            if (ember >= 0 && ember < EMBERS && isFree(c)) {
                cell[ember] = c;
                lies[c] = ember;
                heat[ember] = itsHeat;
                fuel[ember] = itsFuel;
            }
        }

        void takeOut(int ember) {
            if (has(ember)) {
                lies[cell[ember]] = NONE;
                cell[ember] = NONE;
                heat[ember] = 0;
                fuel[ember] = 0;
            }
        }

        void takeOutAll(int embers) {
            for (int e = 0; e < EMBERS; e++) {
                if ((embers >> e & 1) == 1) {
                    takeOut(e);
                }
            }
        }

        void giveFullHeat(int embers) {
            for (int e = 0; e < EMBERS; e++) {
                if ((embers >> e & 1) == 1 && has(e)) {
                    heat[e] = FULL;
                }
            }
        }

        /** To a CELL, if it is one and free; so to the one below is to fall. */
        void carry(int ember, int to) {
            if (has(ember) && isFree(to)) {
                lies[cell[ember]] = NONE;
                cell[ember] = to;
                lies[to] = ember;
            }
        }

        void stoke(int ember) {
            if (has(ember)) {
                heat[ember] = Math.min(FULL, heat[ember] + POKE_HEAT);
                carry(ember, cell[ember] - ROW);
            }
        }

        void addFuel(int ember, int more) {
            if (has(ember)) {
                fuel[ember] = Math.min(FULL, fuel[ember] + more);
            }
        }

        /** An HOUR, in which the draught may be kept off: the bits of those that came to ASH. */
        int pass(Grate grate, boolean blows) {
            int lit = litBits(grate);
            warm(grate, lit, blows && !banked ? grate.draughtAt(hour) : 0);
            int burnt = burn(grate, lit);
            // From below, so that one may fall where one has just fallen from.
            for (int c = ROW; c < CELLS; c++) {
                carry(lies[c], c - ROW);
            }
            hour++;
            return burnt;
        }

        int litBits(Grate grate) {
            int lit = 0;
            for (int e = 0; e < EMBERS; e++) {
                if (has(e) && heat[e] >= grate.catches && grate.kind[e] != IRON) {
                    lit |= 1 << e;
                }
            }
            return lit;
        }

        int ashBits(Grate grate) {
            int ash = 0;
            for (int e = 0; e < EMBERS && e < grate.embers; e++) {
                if (!has(e)) {
                    ash |= 1 << e;
                }
            }
            return ash;
        }

        int hereBits() {
            int here = 0;
            for (int e = 0; e < EMBERS; e++) {
                if (has(e)) {
                    here |= 1 << e;
                }
            }
            return here;
        }

        int heatOfAll() {
            int sum = 0;
            for (int e = 0; e < EMBERS; e++) {
                sum += heat[e];
            }
            return sum;
        }

        int fuelOfAll() {
            int sum = 0;
            for (int e = 0; e < EMBERS; e++) {
                sum += fuel[e];
            }
            return sum;
        }

        int heatBeside(int c) {
            int beside = besideOf(c);
            int sum = 0;
            for (int e = 0; e < EMBERS; e++) {
                if (has(e) && (beside >> cell[e] & 1) == 1) {
                    sum += heat[e];
                }
            }
            return sum;
        }

        int touching(int ember) {
            if (!has(ember)) {
                return 0;
            }
            int beside = besideOf(cell[ember]);
            int touched = 0;
            for (int e = 0; e < EMBERS; e++) {
                if (has(e) && (beside >> cell[e] & 1) == 1) {
                    touched |= 1 << e;
                }
            }
            return touched;
        }

        int hangingWith(int ember) {
            if (!has(ember)) {
                return 0;
            }
            int hall = 1 << ember;
            // Of 7 EMBERS none is more than 6 touches off.
            for (int i = 1; i < EMBERS; i++) {
                int wider = hall;
                for (int e = 0; e < EMBERS; e++) {
                    if ((hall >> e & 1) == 1) {
                        wider |= touching(e);
                    }
                }
                hall = wider;
            }
            return hall;
        }

        int stackOf(int column) {
            int high = 0;
            for (int c = Math.max(0, column); c < CELLS && lies[c] != NONE; c += ROW) {
                high++;
            }
            return high;
        }

        private void warm(Grate grate, int lit, int air) {
            int litCells = 0;
            int dullCells = 0;
            for (int e = 0; e < EMBERS; e++) {
                if ((lit >> e & 1) == 1) {
                    litCells |= 1 << cell[e];
                } else if (has(e) && grate.kind[e] == SLACK) {
                    dullCells |= 1 << cell[e];
                }
            }
            for (int e = 0; e < EMBERS; e++) {
                if (has(e)) {
                    int beside = besideOf(cell[e]);
                    int near = Integer.bitCount(litCells & beside) - Integer.bitCount(dullCells & beside);
                    int told = grate.law.tells(heat[e], Math.max(0, near), air, fuel[e]);
                    heat[e] = Math.max(0, Math.min(FULL, told));
                }
            }
        }

        private int burn(Grate grate, int lit) {
            int burnt = 0;
            for (int e = 0; e < EMBERS; e++) {
                if ((lit >> e & 1) == 1) {
                    fuel[e] -= grate.kind[e] == STICK ? 2 : 1;
                    if (fuel[e] <= 0) {
                        takeOut(e);
                        burnt |= 1 << e;
                    }
                }
            }
            return burnt;
        }

        private static int besideOf(int c) {
            return isCell(c) ? BESIDE[c] : 0;
        }
    }

    /** What can be gone back to: the fires ahead of the last 16 deeds, and the MARKS. */
    private static final class Past {
        // 16 is a power of 2, so these bits of any number are a place among the kept.
        private static final int RING = UNDONE - 1;

        private final Fire[] kept = new Fire[UNDONE];
        private final Fire[] markedFire = new Fire[MARKS];
        private final Told[] markedTold = new Told[MARKS];
        private final boolean[] laid = new boolean[MARKS];
        private int next;
        int size;

        Past() {
            for (int i = 0; i < UNDONE; i++) {
                kept[i] = new Fire();
            }
            for (int i = 0; i < MARKS; i++) {
                markedFire[i] = new Fire();
                markedTold[i] = new Told();
            }
        }

        void keep(Fire fire) {
            kept[next & RING].become(fire);
            next++;
            size = Math.min(UNDONE, size + 1);
        }

        boolean bringBack(Fire fire) {
            if (size <= 0) {
                return false;
            }
            next--;
            size--;
            fire.become(kept[next & RING]);
            return true;
        }

        boolean lay(int mark, Fire fire, Told told) {
            if (mark < 0 || mark >= MARKS) {
                return false;
            }
            markedFire[mark].become(fire);
            markedTold[mark].become(told);
            laid[mark] = true;
            return true;
        }

        boolean goBack(int mark, Fire fire, Told told) {
            if (mark < 0 || mark >= MARKS || !laid[mark]) {
                return false;
            }
            fire.become(markedFire[mark]);
            told.become(markedTold[mark]);
            size = 0;
            return true;
        }

        void forget() {
            size = 0;
            for (int i = 0; i < MARKS; i++) {
                laid[i] = false;
            }
        }
    }

    /** What was TOLD of the unknown one. */
    private static final class Told {
        private final int[] ember = new int[TOLD];
        private final int[] hours = new int[TOLD];
        private final int[] lit = new int[TOLD];
        int size;

        boolean add(int itsEmber, int itsHours, boolean isLit) {
            if (size >= TOLD) {
                return false;
            }
            ember[size] = itsEmber;
            hours[size] = itsHours;
            lit[size] = isLit ? 1 : 0;
            size++;
            return true;
        }

        void become(Told other) {
            System.arraycopy(other.ember, 0, ember, 0, TOLD);
            System.arraycopy(other.hours, 0, hours, 0, TOLD);
            System.arraycopy(other.lit, 0, lit, 0, TOLD);
            size = other.size;
        }

        void forget() {
            size = 0;
        }

        /** Whether all that was TOLD of an hour is so when just these are ALIGHT in it. */
        boolean agrees(int hour, int litThen) {
            for (int i = 0; i < size && i < TOLD; i++) {
                if (hours[i] == hour && (litThen >> ember[i] & 1) != lit[i]) {
                    return false;
                }
            }
            return true;
        }
    }

    /** What comes of a fire when HOURS go by; all is tried on a fire of its own. */
    private static final class Foresight {
        private final Fire trial = new Fire();
        private final int[] lit = new int[LONG_VIEW + 1];
        private long seed;

        Fire behind(Grate grate, Fire now, int hours) {
            trial.become(now);
            for (int h = 0; h < hours; h++) {
                trial.pass(grate, true);
            }
            return trial;
        }

        /** Notes for outOf and firstLit which are ALIGHT in the hours to come. */
        void watch(Grate grate, Fire now) {
            trial.become(now);
            for (int h = 0; h <= LONG_VIEW; h++) {
                lit[h] = trial.litBits(grate);
                trial.pass(grate, true);
            }
        }

        int outOf(int ember) {
            if ((lit[LONG_VIEW] >> ember & 1) == 1) {
                return NONE;
            }
            for (int h = LONG_VIEW - 1; h >= 0; h--) {
                if ((lit[h] >> ember & 1) == 1) {
                    return h + 1;
                }
            }
            return NONE;
        }

        int firstLit(int ember) {
            for (int h = 0; h <= LONG_VIEW; h++) {
                if ((lit[h] >> ember & 1) == 1) {
                    return h;
                }
            }
            return NONE;
        }

        int longest(Grate grate, Fire now) {
            watch(grate, now);
            int best = NONE;
            int most = NONE;
            for (int e = 0; e < EMBERS; e++) {
                int out = outOf(e);
                if (out > most) {
                    most = out;
                    best = e;
                }
            }
            return best;
        }

        int hottestHour(Grate grate, Fire now) {
            trial.become(now);
            int best = 0;
            int most = trial.heatOfAll();
            for (int h = 1; h <= LONG_VIEW; h++) {
                trial.pass(grate, true);
                int heat = trial.heatOfAll();
                if (heat > most) {
                    most = heat;
                    best = h;
                }
            }
            return best;
        }

        int lastsNow(Grate grate, Fire now) {
            trial.become(now);
            return trialLasts(grate, NONE);
        }

        /** EMBER * 12 + CELL, or NONE. */
        int bestMove(Grate grate, Fire now) {
            int best = NONE;
            trial.become(now);
            int most = trialLasts(grate, NONE);
            for (int i = 0; i < EMBERS * CELLS; i++) {
                int ember = i / CELLS;
                int to = i % CELLS;
                if (now.has(ember) && now.isFree(to)) {
                    trial.become(now);
                    trial.carry(ember, to);
                    int hours = trialLasts(grate, NONE);
                    if (hours > most) {
                        most = hours;
                        best = i;
                    }
                }
            }
            return best;
        }

        int bestBanking(Grate grate, Fire now) {
            int best = NONE;
            int most = NONE;
            for (int h = 0; h <= SHORT_VIEW; h++) {
                trial.become(now);
                int hours = trialLasts(grate, h);
                if (hours > most) {
                    most = hours;
                    best = h;
                }
            }
            trial.become(now);
            return trialLasts(grate, NONE) > most ? NONE : best;
        }

        int bestPoke(Grate grate, Fire now, int hours) {
            int best = NONE;
            int most = NONE;
            for (int e = 0; e < EMBERS; e++) {
                if (now.has(e)) {
                    trial.become(now);
                    trial.stoke(e);
                    for (int h = 0; h < hours; h++) {
                        trial.pass(grate, true);
                    }
                    int heat = trial.heatOfAll();
                    if (heat > most) {
                        most = heat;
                        best = e;
                    }
                }
            }
            return best;
        }

        int nextFalls(Grate grate, Fire now) {
            trial.become(now);
            trial.pass(grate, true);
            int falls = 0;
            for (int e = 0; e < EMBERS; e++) {
                if (trial.has(e) && trial.cell[e] != now.cell[e]) {
                    falls |= 1 << e;
                }
            }
            return falls;
        }

        int gainBy(Grate grate, Fire now, int ember) {
            trial.become(now);
            int with = trialLasts(grate, NONE);
            trial.become(now);
            trial.takeOut(ember);
            return with - trialLasts(grate, NONE);
        }

        int judge(Grate grate, Evening evening, int what) {
            int firstWrong = NONE;
            int firstAsh = NONE;
            trial.become(grate.begin);
            for (int i = 0; i < evening.lines && i < LINES; i++) {
                if (evening.act[i] == Evening.HOUR) {
                    if (trial.pass(grate, true) != 0 && firstAsh == NONE) {
                        firstAsh = i;
                    }
                } else if (!tryLine(evening.act[i], evening.ember[i], evening.number[i]) && firstWrong == NONE) {
                    firstWrong = i;
                }
            }
            if (what == 2) {
                return trial.heatOfAll();
            }
            return what == 0 ? firstWrong : firstAsh;
        }

        int winter(Grate grate, Fire now, int firstSeed, int hours, int what) {
            seed = firstSeed;
            trial.become(now);
            int ashes = 0;
            for (int h = 0; h < hours; h++) {
                if (grate.embers > 0) {
                    tend(grate.embers);
                }
                ashes += Integer.bitCount(trial.pass(grate, true));
            }
            if (what == 0) {
                return ashes;
            }
            return what == 1 ? Integer.bitCount(trial.litBits(grate)) : trial.heatOfAll();
        }

        /** A line but hour; false: it can't be, and is left out. */
        private boolean tryLine(int act, int ember, int number) {
            if (act == Evening.BANK) {
                trial.banked = !trial.banked;
                return true;
            }
            if (!trial.has(ember) || act == Evening.TONGS && !trial.isFree(number)) {
                return false;
            }
            if (act == Evening.POKE) {
                trial.stoke(ember);
            } else if (act == Evening.TONGS) {
                trial.carry(ember, number);
            } else {
                trial.addFuel(ember, number);
            }
            return true;
        }

        private void tend(int embers) {
            int act = draw(4);
            if (act == 0) {
                trial.stoke(draw(embers));
            } else if (act == 1) {
                int ember = draw(embers);
                // Drawn for ASH, too, which takes none of it.
                int more = draw(9) + 1;
                trial.addFuel(ember, more);
            }
        }

        private int draw(int below) {
            seed = seed * 1103515245L + 12345L & 2147483647L;
            return below > 0 ? (int) (seed / 65536 % below) : 0;
        }

        /** How long the trial LASTS if it is banked (or no more) at an hour from now; NONE: never. */
        private int trialLasts(Grate grate, int bankAt) {
            for (int h = 0; h <= LONG_VIEW; h++) {
                if (trial.litBits(grate) == 0) {
                    return h;
                }
                if (h == bankAt) {
                    trial.banked = !trial.banked;
                }
                trial.pass(grate, true);
            }
            return FOR_EVER;
        }
    }

    /** Which to light, to take out, to look at, and by what chance one glows. */
    private static final class Riddle {
        private static final int SETS = 1 << EMBERS;

        private final Fire trial = new Fire();
        private final int[] litThen = new int[EMBERS];

        int fewestLit(Grate grate, Fire now) {
            int burning = 0;
            for (int e = 0; e < EMBERS; e++) {
                if (now.has(e) && grate.kind[e] != IRON) {
                    burning |= 1 << e;
                }
            }
            for (int size = 0; size <= EMBERS; size++) {
                for (int set = 0; set < SETS; set++) {
                    if ((set & ~burning) == 0 && Integer.bitCount(set) == size) {
                        trial.become(now);
                        trial.giveFullHeat(set);
                        if (trialGlows(grate) == burning) {
                            return set;
                        }
                    }
                }
            }
            return NONE;
        }

        int fewestTaken(Grate grate, Fire now, int ember) {
            int others = now.hereBits() & ~(1 << ember);
            for (int size = 0; size < EMBERS; size++) {
                for (int set = 0; set < SETS; set++) {
                    if ((set & ~others) == 0 && Integer.bitCount(set) == size) {
                        trial.become(now);
                        trial.takeOutAll(set);
                        if ((trialGlows(grate) >> ember & 1) == 0) {
                            return set;
                        }
                    }
                }
            }
            return NONE;
        }

        int suspects(Grate grate, Fire now, Told told) {
            return suspectsSeen(grate, now, told, 0);
        }

        int bestLook(Grate grate, Fire now, Told told, int hours) {
            int suspects = suspectsSeen(grate, now, told, hours);
            int all = Integer.bitCount(suspects);
            int best = NONE;
            int least = all;
            for (int e = 0; e < EMBERS; e++) {
                int lit = 0;
                for (int s = 0; s < EMBERS; s++) {
                    if ((suspects >> s & 1) == 1) {
                        lit += litThen[s] >> e & 1;
                    }
                }
                int greater = Math.max(lit, all - lit);
                if (greater < least) {
                    least = greater;
                    best = e;
                }
            }
            return best;
        }

        int millionths(Grate grate, Fire now, int ember, int hours, int odds) {
            int sum = 0;
            for (int winds = 0; winds < 1 << hours; winds++) {
                int weight = 1;
                trial.become(now);
                for (int h = 0; h < hours; h++) {
                    boolean blows = (winds >> h & 1) == 1;
                    weight *= blows ? odds : 10 - odds;
                    trial.pass(grate, blows);
                }
                if ((trial.litBits(grate) >> ember & 1) == 1) {
                    sum += weight;
                }
            }
            for (int h = hours; h < CHANCE_HOURS; h++) {
                sum *= 10;
            }
            return sum;
        }

        /** Which are ALIGHT once within 12 HOURS. */
        private int trialGlows(Grate grate) {
            int glowed = trial.litBits(grate);
            for (int h = 0; h < SHORT_VIEW; h++) {
                trial.pass(grate, true);
                glowed |= trial.litBits(grate);
            }
            return glowed;
        }

        /** WHICH; and, for bestLook, which are ALIGHT behind so many hours by each of them. */
        private int suspectsSeen(Grate grate, Fire now, Told told, int hours) {
            int suspects = 0;
            for (int s = 0; s < EMBERS; s++) {
                boolean fits = now.has(s);
                trial.become(now);
                trial.giveFullHeat(1 << s);
                for (int h = 0; h <= SHORT_VIEW && fits; h++) {
                    int lit = trial.litBits(grate);
                    if (h == hours) {
                        litThen[s] = lit;
                    }
                    fits = told.agrees(h, lit);
                    trial.pass(grate, true);
                }
                if (fits) {
                    suspects |= 1 << s;
                }
            }
            return suspects;
        }
    }
}

/**
 * A war over a hyphen along a front of columns. The document's promises say
 * what each call answers; README.md tells which class inside does what.
 */
public final class HyphenWar {
    /** There is none. */
    public static final int NONE = -1;
    /** What is not there, where it could be below 0. */
    public static final int NOTHING = -1000;

    private static final int SIDES = 2;
    private static final int COLUMNS = 8;
    private static final int SIGNS = 8;
    private static final int WORDS = 8;
    private static final int SETS = 256;
    private static final int LINE_MOST = 3;
    private static final int MEN_MOST = 99;
    private static final int SUPPLY_MOST = 999;
    private static final int TEMPER_MOST = 99;
    private static final int READS_MOST = 20;
    private static final int WORTH_MOST = 9;
    private static final int PAUSES_MOST = 10;
    private static final int LAW_TELLS_MOST = 99;
    private static final int COST_WITHOUT = 5;
    private static final int FEED_WITHOUT = 3;
    private static final int DAY_MOST = 999;
    private static final int NEED_MOST = 40;
    private static final int MOOD_MOST = 9;
    private static final int HEARD_MOST = 8;
    private static final int TOLD_MOST = 6;
    private static final int SHOWN_MOST = 16;
    private static final int UNDO_MOST = 16;
    private static final int LAWS_MOST = 6;
    private static final int IMAGES = 2;
    private static final int TAPE_MOST = 400;
    private static final int CLAUSES_MOST = 12;
    private static final int PARTS_MOST = 50;
    private static final int BRACKETS_MOST = 8;
    private static final int NUMBER_MOST = 1000;
    private static final int TIMES_MOST = 20;
    private static final int SEED_MOST = 1000000;
    private static final int DECADES_MOST = 60;
    private static final int HOLDS_MOST = 60;
    private static final long SUM_MOST = 1000000000L;

    private static final int WRONG_NUMBER = -1;
    private static final int NO_SUCH = -2;
    private static final int CANNOT_BE = -3;
    private static final int NO_ROOM = -5;
    private static final int WRONG_TEXT = -6;

    // where what a front has stands in its one row of cells
    private static final int LINE_CELL = 0;
    private static final int MEN_CELL = 8;
    private static final int SUPPLY_CELL = 24;
    private static final int TEMPER_CELL = 26;
    private static final int DAY_CELL = 28;
    private static final int FRONT_CELLS = 29;

    /** All words of both languages, each with a blank behind it, in the order of their numbers below. */
    private static final String NAMES = "reads costs feeds bars attack shift show pass at by to times if or and not side column line men foes supply temper sign day mood done latest ";

    // kinds of tokens: a byte that stands alone is its own kind, 0 .. 255
    private static final int READS = 256;
    private static final int COSTS = 257;
    private static final int FEEDS = 258;
    private static final int BARS = 259;
    private static final int ATTACK = 260;
    private static final int SHIFT = 261;
    private static final int SHOW = 262;
    private static final int PASS = 263;
    private static final int AT = 264;
    private static final int BY = 265;
    private static final int TO = 266;
    private static final int TIMES = 267;
    private static final int IF = 268;
    private static final int OR = 269;
    private static final int AND = 270;
    private static final int NOT = 271;
    private static final int SIDE = 272;
    private static final int LINE = 274;
    private static final int SUPPLY = 277;
    private static final int TEMPER = 278;
    private static final int DAY = 280;
    private static final int MOOD = 281;
    private static final int DONE = 282;
    private static final int LATEST = 283;
    private static final int NO_WORD = 284;
    private static final int NUMBER = 285;
    private static final int END = 286;

    // operations that are no tokens
    private static final int WORD = 287;
    private static final int STOP = 288;

    // where the words' values stand while a law is asked
    private static final int LAW_SIDE = 0;
    private static final int LAW_COLUMN = 1;
    private static final int LAW_LINE = 2;
    private static final int LAW_MEN = 3;
    private static final int LAW_FOES = 4;
    private static final int LAW_SUPPLY = 5;
    private static final int LAW_TEMPER = 6;
    private static final int LAW_SIGN = 7;
    private static final int LAW_DAY = 8;
    private static final int LAW_MOOD = 9;

    // where the words' values stand while orders are run
    private static final int ORDER_DAY = 0;
    private static final int ORDER_DONE = 1;
    private static final int ORDER_LATEST = 2;
    private static final int ORDER_LINE = 3;
    private static final int ORDER_SUPPLY = 11;
    private static final int ORDER_TEMPER = 13;
    private static final int WORD_VALUES = 15;

    // a clause has places for three sums and its test
    private static final int SUMS = 3;
    private static final int TEST_PLACE = 3;
    private static final int PLACES = 4;

    /** Beyond every sum; the values of tests are 1 and 0. */
    private static final long BROKEN = 4000000000L;

    // what a byte of a tape belongs to
    private static final int SINGLE = 0;
    private static final int LETTERS = 1;
    private static final int DIGITS = 2;

    private final Book book;
    private final War war;
    private final Paper paper;
    private final Reader reader;
    private final Book[] images;
    private final Past past;
    private final Past pastAhead;
    private final Front before;
    private final Front ahead;
    private final Front decadesFront;
    private boolean decadesKept;
    private final int[] tape;
    private int tapeLength;
    private int faultPlace;
    private int strokeCount;
    private int stoppedAt;
    private final int[] orderSums;
    private final int[] refusals;
    private int latestRefusal;

    public HyphenWar() {
        book = new Book();
        war = new War(book);
        paper = new Paper(book, war);
        reader = new Reader();
        images = new Book[IMAGES];
        past = new Past();
        pastAhead = new Past();
        before = new Front();
        ahead = new Front();
        decadesFront = new Front();
        tape = new int[TAPE_MOST];
        faultPlace = NONE;
        stoppedAt = NONE;
        orderSums = new int[SUMS];
        refusals = new int[-WRONG_TEXT];
    }

    public int men(int side, int column, int men) {
        if (!isSide(side) || !isColumn(column) || !within(men, 0, MEN_MOST)) {
            return refuse(WRONG_NUMBER);
        }
        int was = book.front.menAt(side, column);
        book.front.setMen(side, column, men);
        past.clear();
        return accept(was);
    }

    public int at(int column, int what) {
        if (!isColumn(column)) {
            return NOTHING;
        }
        Front front = book.front;
        switch (what) {
            case 0:
                return front.lineAt(column);
            case 1:
            case 2:
                return front.menAt(what - 1, column);
            case 3:
            case 4:
                return war.costOf(book.lawInForce(), front, what - 3, column);
            case 5:
            case 6:
                return war.isBarred(front, what - 5, column) ? 1 : 0;
            default:
                return NOTHING;
        }
    }

    public int of(int side, int what) {
        if (!isSide(side)) {
            return NONE;
        }
        Front front = book.front;
        switch (what) {
            case 0:
                return front.supplyOf(side);
            case 1:
                return front.temperOf(side);
            case 2:
                return war.feedOf(front, side);
            case 3:
                return front.menOf(side);
            default:
                return NONE;
        }
    }

    public int sign(int sign, int side, int what, int value) {
        boolean answers = what == 1;
        boolean fits = answers ? within(value, NONE, SIGNS - 1) : within(value, -READS_MOST, READS_MOST);
        if (!isSign(sign) || !isSide(side) || !within(what, 0, 1) || !fits) {
            return refuse(WRONG_NUMBER);
        }
        int[] row = answers ? book.answers : book.readings;
        row[pair(sign, side)] = value;
        past.clear();
        return accept(0);
    }

    public int reads(int sign, int side, int what) {
        if (!isSign(sign) || !isSide(side) || !within(what, 0, 1)) {
            return NOTHING;
        }
        return what == 0 ? war.readingOf(book.front, sign, side) : book.answers[pair(sign, side)];
    }

    public int word(int word, int side, int what, int value) {
        boolean pauses = what == 1;
        boolean fits = pauses ? within(value, 0, PAUSES_MOST) : within(value, -WORTH_MOST, WORTH_MOST);
        if (!isWord(word) || !isSide(side) || !within(what, 0, 1) || !fits) {
            return refuse(WRONG_NUMBER);
        }
        int[] row = pauses ? book.pauses : book.worths;
        row[pair(word, side)] = value;
        return accept(0);
    }

    public int terms(int what, int value) {
        int was = book.termOf(what);
        if (was == NONE || !Book.termFits(what, value)) {
            return refuse(WRONG_NUMBER);
        }
        book.setTerm(what, value);
        past.clear();
        return accept(was);
    }

    public int feed(int a, int b, int c, int d, int e) {
        if (tapeLength + 20 > TAPE_MOST) {
            return NONE;
        }
        addBytes(a);
        addBytes(b);
        addBytes(c);
        addBytes(d);
        addBytes(e);
        return tapeLength;
    }

    public int end(int n) {
        if (!within(n, 0, tapeLength)) {
            return NONE;
        }
        tapeLength = n;
        return n;
    }

    public int row() {
        if (tapeLength == 0) {
            return refuse(WRONG_TEXT);
        }
        int told = 0;
        strokeCount = 0;
        for (int i = 0; i < tapeLength; i += 3) {
            if (tellMen(i)) {
                told++;
            } else {
                strokeCount++;
            }
        }
        tapeLength = 0;
        past.clear();
        return accept(told);
    }

    public int strokes() {
        return strokeCount;
    }

    public int law() {
        int length = tapeLength;
        tapeLength = 0;
        if (book.lawCount >= LAWS_MOST) {
            return refuse(NO_ROOM);
        }
        faultPlace = reader.readText(tape, length, true);
        if (faultPlace != NONE) {
            return refuse(WRONG_TEXT);
        }
        int number = book.lawCount;
        book.laws[number] = new Text(reader.text);
        book.lawCount++;
        return accept(number);
    }

    public int orders() {
        faultPlace = reader.readText(tape, tapeLength, false);
        tapeLength = 0;
        stoppedAt = NONE;
        if (faultPlace != NONE) {
            return refuse(WRONG_TEXT);
        }
        ahead.copyFrom(book.front);
        pastAhead.copyFrom(past);
        int done = runOrders(reader.text);
        if (done < 0) {
            book.front.copyFrom(ahead);
            past.copyFrom(pastAhead);
            return refuse(CANNOT_BE);
        }
        return accept(done);
    }

    public int fault() {
        return faultPlace;
    }

    public int stopped() {
        return stoppedAt;
    }

    public int force(int law) {
        if (law != NONE && !book.hasLaw(law)) {
            return refuse(NO_SUCH);
        }
        int was = book.inForce;
        book.inForce = law;
        return accept(was);
    }

    public int attack(int side, int column) {
        return answer(act(ATTACK, side, column, 0));
    }

    public int shift(int side, int column, int men) {
        return answer(act(SHIFT, side, column, men));
    }

    public int show(int sign, int side) {
        return answer(act(SHOW, sign, side, 0));
    }

    public int pass() {
        return answer(act(PASS, 0, 0, 0));
    }

    public int undo() {
        if (past.size == 0) {
            return refuse(CANNOT_BE);
        }
        return accept(past.takeLatest(book.front) - ATTACK);
    }

    public int treaty(int what) {
        if (!within(what, 0, 1)) {
            return NONE;
        }
        return countOrSet(paper.treatyWords(), what);
    }

    public int hear(int word, int paused) {
        if (!isWord(word) || !within(paused, 0, 1)) {
            return refuse(WRONG_NUMBER);
        }
        int n = book.heardCount;
        if (n >= HEARD_MOST) {
            return refuse(NO_ROOM);
        }
        book.heardWords[n] = word;
        book.heardPaused[n] = paused;
        book.heardCount = n + 1;
        return accept(n + 1);
    }

    public int tell(int side, int by) {
        if (!isSide(side) || !within(by, -READS_MOST, READS_MOST)) {
            return refuse(WRONG_NUMBER);
        }
        int n = book.toldCount;
        if (n >= TOLD_MOST) {
            return refuse(NO_ROOM);
        }
        book.toldSides[n] = side;
        book.toldBys[n] = by;
        book.toldCount = n + 1;
        return accept(n + 1);
    }

    public int forget() {
        int were = book.heardCount + book.toldCount;
        book.heardCount = 0;
        book.toldCount = 0;
        return were;
    }

    public int probably() {
        return paper.probablyWith(NONE, 0);
    }

    public int ask(int what) {
        if (!within(what, 0, 1)) {
            return NONE;
        }
        int word = paper.wordToAsk();
        return what == 0 ? word : paper.differenceAt(word);
    }

    public int chain(int sign, int side, int what) {
        if (!isSign(sign) || !isSide(side) || !within(what, 0, 1)) {
            return NONE;
        }
        int shown = paper.chainFrom(sign, side, 0);
        if (what == 0) {
            return Math.abs(shown);
        }
        return shown < 0 ? 1 : 0;
    }

    public int stilled(int what) {
        if (!within(what, 0, 1)) {
            return NONE;
        }
        return countOrSet(paper.signsToStill(), what);
    }

    public int pushed(int side, int what) {
        if (!isSide(side) || !within(what, 0, 2)) {
            return NONE;
        }
        int set = paper.columnsToPush(side);
        return what == 1 ? paper.costOfSet(set) : countOrSet(set, what);
    }

    public int level(int side) {
        return isSide(side) ? paper.menToLevel(side) : NONE;
    }

    public int posts(int reach, int what) {
        if (!within(reach, 0, COLUMNS - 1) || !within(what, 0, 1)) {
            return NONE;
        }
        return countOrSet(paper.columnsForPosts(reach), what);
    }

    public int way(int side, int from, int well, int what) {
        if (!isSide(side) || !isColumn(from) || !isColumn(well) || from == well) {
            return NONE;
        }
        int foesUp = paper.foesOnWay(side, from, well, 1);
        int foesDown = paper.foesOnWay(side, from, well, -1);
        boolean up = foesUp <= foesDown;
        switch (what) {
            case 0:
                return up ? foesUp : foesDown;
            case 1:
                return up ? 1 : 0;
            case 2:
                return Math.floorMod(up ? well - from : from - well, COLUMNS);
            default:
                return NONE;
        }
    }

    public long holds(int n) {
        return within(n, 0, HOLDS_MOST) ? paper.chanceToHold(n) : NONE;
    }

    public int which() {
        return paper.signsThatFit();
    }

    public int compare(int law) {
        if (law != NONE && !book.hasLaw(law)) {
            return NONE;
        }
        return paper.costOfAll(book.lawOf(law));
    }

    public int decades(int seed, int n) {
        if (!within(seed, 0, SEED_MOST) || !within(n, 1, DECADES_MOST)) {
            return refuse(WRONG_NUMBER);
        }
        decadesFront.copyFrom(book.front);
        decadesKept = true;
        return accept(war.runDecades(decadesFront, seed, n));
    }

    public int drawn(int k, int what) {
        boolean ofColumn = within(what, 0, 2) && isColumn(k);
        boolean ofSide = within(what, 3, 4) && isSide(k);
        if (!decadesKept || !(ofColumn || ofSide)) {
            return NOTHING;
        }
        switch (what) {
            case 0:
                return decadesFront.lineAt(k);
            case 1:
            case 2:
                return decadesFront.menAt(what - 1, k);
            case 3:
                return decadesFront.supplyOf(k);
            default:
                return decadesFront.temperOf(k);
        }
    }

    public int image(int k) {
        if (!within(k, 0, IMAGES - 1)) {
            return refuse(WRONG_NUMBER);
        }
        if (images[k] == null) {
            images[k] = new Book();
        }
        images[k].copyFrom(book);
        return accept(0);
    }

    public int back(int k) {
        if (!within(k, 0, IMAGES - 1)) {
            return refuse(WRONG_NUMBER);
        }
        if (images[k] == null) {
            return refuse(NO_SUCH);
        }
        book.copyFrom(images[k]);
        past.clear();
        return accept(0);
    }

    public int count(int what) {
        switch (what) {
            case 0:
                return book.heardCount;
            case 1:
                return book.toldCount;
            case 2:
                return book.lawCount;
            case 3:
                return past.size;
            case 4:
                return tapeLength;
            case 5:
            case 6:
            case 7:
                return refusals[what - 5];
            case 8:
            case 9:
                return refusals[what - 4];
            case 10:
                return book.inForce;
            default:
                return book.termOf(what - 11);
        }
    }

    public int status() {
        return latestRefusal;
    }

    private static boolean within(int value, int low, int high) {
        return value >= low && value <= high;
    }

    private static boolean isSide(int side) {
        return within(side, 0, SIDES - 1);
    }

    private static boolean isColumn(int column) {
        return within(column, 0, COLUMNS - 1);
    }

    private static boolean isSign(int sign) {
        return within(sign, 0, SIGNS - 1);
    }

    private static boolean isWord(int word) {
        return within(word, 0, WORDS - 1);
    }

    /** Where what belongs to a sign (or a word) and a side stands in its row. */
    private static int pair(int one, int side) {
        return one * SIDES + side;
    }

    private static int countOrSet(int set, int what) {
        return what != 0 || set == NONE ? set : Integer.bitCount(set);
    }

    private int accept(int told) {
        latestRefusal = 0;
        return told;
    }

    private int refuse(int by) {
        latestRefusal = by;
        if (within(by, WRONG_TEXT, WRONG_NUMBER)) {
            refusals[-by - 1]++;
        }
        return by;
    }

    private int answer(int told) {
        return told < 0 ? refuse(told) : accept(told);
    }

    private void addBytes(int four) {
        for (int shift = 24; shift >= 0 && tapeLength < TAPE_MOST; shift -= 8) {
            tape[tapeLength] = (four >>> shift) & 255;
            tapeLength++;
        }
    }

    /** Sets MEN by three bytes of the tape; not so for a stroke. */
    private boolean tellMen(int i) {
        if (i + 3 > tapeLength || !isSide(tape[i]) || !isColumn(tape[i + 1]) || !within(tape[i + 2], 0, MEN_MOST)) {
            return false;
        }
        book.front.setMen(tape[i], tape[i + 1], tape[i + 2]);
        return true;
    }

    /** Does one act on the front as it stands, and keeps what was ahead of it. */
    private int act(int kind, int a, int b, int c) {
        before.copyFrom(book.front);
        int told = WRONG_NUMBER;
        switch (kind) {
            case ATTACK:
                told = war.doAttack(book.front, a, b);
                break;
            case SHIFT:
                told = war.doShift(book.front, a, b, c);
                break;
            case SHOW:
                told = war.doShow(book.front, a, b);
                break;
            case PASS:
                told = war.doPass(book.front);
                break;
            default:
                break;
        }
        if (told >= 0) {
            past.add(kind, before);
        }
        return told;
    }

    /** How many orders were run, or NONE, if one could not be. */
    private int runOrders(Text text) {
        Reckoner reckoner = war.reckoner;
        int done = 0;
        int latest = NONE;
        for (int clause = 0; clause < text.clauses; clause++) {
            for (int n = 0; n < text.times[clause]; n++) {
                reckoner.setOrderWords(book.front, done, latest);
                int test = text.starts[clause * PLACES + TEST_PLACE];
                if (test != NONE && reckoner.valueOf(text, test) != 1) {
                    continue;
                }
                boolean whole = true;
                for (int k = 0; k < SUMS; k++) {
                    long value = reckoner.valueOf(text, text.starts[clause * PLACES + k]);
                    whole = whole && value != BROKEN;
                    orderSums[k] = (int) value;
                }
                int kind = text.kinds[clause];
                int told = whole ? act(kind, orderSums[0], orderSums[1], orderSums[2]) : CANNOT_BE;
                if (told < 0) {
                    stoppedAt = clause;
                    return NONE;
                }
                latest = kind == ATTACK ? told : latest;
                done++;
            }
        }
        return done;
    }

    /** What acts change, in one row, so that it is kept and put back at once. */
    private static final class Front {
        private final int[] cells = new int[FRONT_CELLS];

        Front() {
            for (int side = 0; side < SIDES; side++) {
                cells[SUPPLY_CELL + side] = 50;
                cells[TEMPER_CELL + side] = 20;
            }
        }

        void copyFrom(Front other) {
            System.arraycopy(other.cells, 0, cells, 0, FRONT_CELLS);
        }

        int lineAt(int column) {
            return cells[LINE_CELL + column];
        }

        void setLine(int column, int line) {
            cells[LINE_CELL + column] = line;
        }

        int menAt(int side, int column) {
            return cells[MEN_CELL + side * COLUMNS + column];
        }

        void setMen(int side, int column, int men) {
            cells[MEN_CELL + side * COLUMNS + column] = men;
        }

        int menOf(int side) {
            int all = 0;
            for (int column = 0; column < COLUMNS; column++) {
                all += menAt(side, column);
            }
            return all;
        }

        /** Whether a side has more men in a column than the other one. */
        boolean isStronger(int side, int column) {
            return menAt(side, column) > menAt(1 - side, column);
        }

        /** Whether the line can go on into what is the other side's. */
        boolean canGoOn(int side, int column) {
            return side == 0 ? lineAt(column) < LINE_MOST : lineAt(column) > -LINE_MOST;
        }

        int supplyOf(int side) {
            return cells[SUPPLY_CELL + side];
        }

        void setSupply(int side, int supply) {
            cells[SUPPLY_CELL + side] = Math.min(supply, SUPPLY_MOST);
        }

        int temperOf(int side) {
            return cells[TEMPER_CELL + side];
        }

        void setTemper(int side, int temper) {
            cells[TEMPER_CELL + side] = Math.max(0, Math.min(temper, TEMPER_MOST));
        }

        int theDay() {
            return cells[DAY_CELL];
        }

        void setDay(int day) {
            cells[DAY_CELL] = day;
        }
    }

    /** The fronts ahead of the latest acts, 16 at most: a ring in one row. */
    private static final class Past {
        private final int[] cells = new int[UNDO_MOST * FRONT_CELLS];
        private final int[] kinds = new int[UNDO_MOST];
        private int next;
        private int size;

        void clear() {
            size = 0;
        }

        void add(int kind, Front front) {
            System.arraycopy(front.cells, 0, cells, next * FRONT_CELLS, FRONT_CELLS);
            kinds[next] = kind;
            next = (next + 1) % UNDO_MOST;
            size = Math.min(size + 1, UNDO_MOST);
        }

        /** Puts the latest front back: which kind of act that undoes. */
        int takeLatest(Front front) {
            next = (next + UNDO_MOST - 1) % UNDO_MOST;
            size = Math.max(size - 1, 0);
            System.arraycopy(cells, next * FRONT_CELLS, front.cells, 0, FRONT_CELLS);
            return kinds[next];
        }

        void copyFrom(Past other) {
            System.arraycopy(other.cells, 0, cells, 0, cells.length);
            System.arraycopy(other.kinds, 0, kinds, 0, UNDO_MOST);
            next = other.next;
            size = other.size;
        }
    }

    /** All that an image keeps. */
    private static final class Book {
        private final Front front = new Front();
        private final int[] readings = new int[SIGNS * SIDES];
        private final int[] answers = new int[SIGNS * SIDES];
        private final int[] worths = new int[WORDS * SIDES];
        private final int[] pauses = new int[WORDS * SIDES];
        private final int[] heardWords = new int[HEARD_MOST];
        private final int[] heardPaused = new int[HEARD_MOST];
        private int heardCount;
        private final int[] toldSides = new int[TOLD_MOST];
        private final int[] toldBys = new int[TOLD_MOST];
        private int toldCount;
        private int need = 3;
        private int mood;
        private final Text[] laws = new Text[LAWS_MOST];
        private int lawCount;
        private int inForce = NONE;

        Book() {
            for (int i = 0; i < SIGNS * SIDES; i++) {
                answers[i] = NONE;
            }
            for (int i = 0; i < WORDS * SIDES; i++) {
                pauses[i] = 5;
            }
        }

        void copyFrom(Book other) {
            front.copyFrom(other.front);
            System.arraycopy(other.readings, 0, readings, 0, readings.length);
            System.arraycopy(other.answers, 0, answers, 0, answers.length);
            System.arraycopy(other.worths, 0, worths, 0, worths.length);
            System.arraycopy(other.pauses, 0, pauses, 0, pauses.length);
            System.arraycopy(other.heardWords, 0, heardWords, 0, HEARD_MOST);
            System.arraycopy(other.heardPaused, 0, heardPaused, 0, HEARD_MOST);
            heardCount = other.heardCount;
            System.arraycopy(other.toldSides, 0, toldSides, 0, TOLD_MOST);
            System.arraycopy(other.toldBys, 0, toldBys, 0, TOLD_MOST);
            toldCount = other.toldCount;
            need = other.need;
            mood = other.mood;
            for (int i = 0; i < LAWS_MOST; i++) {
                laws[i] = other.laws[i];
            }
            lawCount = other.lawCount;
            inForce = other.inForce;
        }

        boolean hasLaw(int law) {
            return law >= 0 && law < lawCount;
        }

        /** The law of a number; null for one that is not there. */
        Text lawOf(int law) {
            return hasLaw(law) ? laws[law] : null;
        }

        Text lawInForce() {
            return lawOf(inForce);
        }

        int termOf(int what) {
            switch (what) {
                case 0:
                    return front.theDay();
                case 1:
                    return need;
                case 2:
                    return mood;
                default:
                    return NONE;
            }
        }

        static boolean termFits(int what, int value) {
            switch (what) {
                case 0:
                    return within(value, 0, DAY_MOST);
                case 1:
                    return within(value, 1, NEED_MOST);
                default:
                    return within(value, 0, MOOD_MOST);
            }
        }

        void setTerm(int what, int value) {
            switch (what) {
                case 0:
                    front.setDay(value);
                    break;
                case 1:
                    need = value;
                    break;
                default:
                    mood = value;
                    break;
            }
        }
    }

    /** A text that was read: its clauses, with their sums and tests as operations behind what they take. */
    private static final class Text {
        private final int[] code;
        private final int[] with;
        private int length;
        private final int[] kinds;
        private final int[] times;
        /** Where the sums and the test of each clause begin in the code, or NONE. */
        private final int[] starts;
        private int clauses;

        Text() {
            code = new int[TAPE_MOST + 1];
            with = new int[TAPE_MOST + 1];
            kinds = new int[CLAUSES_MOST];
            times = new int[CLAUSES_MOST];
            starts = new int[CLAUSES_MOST * PLACES];
        }

        /** The same text with no more room than it needs. */
        Text(Text other) {
            length = other.length;
            code = new int[length];
            with = new int[length];
            System.arraycopy(other.code, 0, code, 0, length);
            System.arraycopy(other.with, 0, with, 0, length);
            clauses = other.clauses;
            kinds = new int[clauses];
            times = new int[clauses];
            starts = new int[clauses * PLACES];
            System.arraycopy(other.kinds, 0, kinds, 0, clauses);
            System.arraycopy(other.times, 0, times, 0, clauses);
            System.arraycopy(other.starts, 0, starts, 0, clauses * PLACES);
        }

        void clear() {
            length = 0;
            clauses = 0;
        }

        void beginClause(int kind) {
            if (clauses < CLAUSES_MOST) {
                kinds[clauses] = kind;
                times[clauses] = 1;
                for (int place = 0; place < PLACES; place++) {
                    starts[clauses * PLACES + place] = NONE;
                }
                clauses++;
            }
        }

        /** The code that follows is a sum or the test of the latest clause; what was ahead of it stops there. */
        void beginPlace(int place) {
            put(STOP, 0);
            if (clauses > 0) {
                starts[(clauses - 1) * PLACES + place] = length;
            }
        }

        void setTimes(int n) {
            if (clauses > 0) {
                times[clauses - 1] = n;
            }
        }

        void put(int operation, int number) {
            if (length < code.length) {
                code[length] = operation;
                with[length] = number;
                length++;
            }
        }
    }

    /** Reads a tape as a text of either language; a method that reads is not so at a fault, where it stays. */
    private static final class Reader {
        private final int[] kinds = new int[TAPE_MOST + 1];
        private final int[] values = new int[TAPE_MOST + 1];
        private final int[] places = new int[TAPE_MOST + 1];
        private int tokens;
        private int here;
        private int parts;
        private boolean isLaw;
        private final Text text = new Text();

        /** The place of the fault, or NONE; what was read is in text. */
        int readText(int[] tape, int length, boolean asLaw) {
            isLaw = asLaw;
            tokens = 0;
            here = 0;
            parts = 0;
            text.clear();
            splitTape(tape, length);
            boolean goesOn = true;
            for (int n = 0; n < CLAUSES_MOST && goesOn; n++) {
                if (!readClause()) {
                    return places[here];
                }
                goesOn = skip(';');
            }
            // behind the last semicolon a clause too many would begin
            return !goesOn && kinds[here] == END ? NONE : places[here];
        }

        private void splitTape(int[] tape, int length) {
            int i = 0;
            while (i < length) {
                int from = i;
                int first = tape[i];
                int sort = sortOf(first);
                i++;
                while (i < length && sort != SINGLE && sortOf(tape[i]) == sort) {
                    i++;
                }
                if (sort == LETTERS) {
                    addToken(wordAt(tape, from, i), 0, from);
                } else if (sort == DIGITS) {
                    addToken(NUMBER, numberAt(tape, from, i), from);
                } else if (first != ' ') {
                    addToken(first, 0, from);
                }
            }
            addToken(END, 0, length);
        }

        private static int sortOf(int sign) {
            if (sign >= 'a' && sign <= 'z') {
                return LETTERS;
            }
            return sign >= '0' && sign <= '9' ? DIGITS : SINGLE;
        }

        private void addToken(int kind, int value, int place) {
            if (tokens < kinds.length) {
                kinds[tokens] = kind;
                values[tokens] = value;
                places[tokens] = place;
                tokens++;
            }
        }

        private static int wordAt(int[] tape, int from, int to) {
            int kind = READS;
            int i = from;
            boolean same = true;
            for (int k = 0; k < NAMES.length(); k++) {
                char letter = NAMES.charAt(k);
                if (letter != ' ') {
                    same = same && i < to && tape[i] == letter;
                    i++;
                } else if (same && i == to) {
                    return kind;
                } else {
                    kind++;
                    i = from;
                    same = true;
                }
            }
            return NO_WORD;
        }

        /** A number above what can be is told as just above it: more digits can't matter. */
        private static int numberAt(int[] tape, int from, int to) {
            int number = 0;
            for (int i = from; i < to; i++) {
                number = Math.min(number * 10 + tape[i] - '0', NUMBER_MOST + 1);
            }
            return number;
        }

        private boolean skip(int kind) {
            if (kinds[here] != kind || kind == END) {
                return false;
            }
            here++;
            return true;
        }

        private boolean readClause() {
            int kind = kinds[here];
            text.beginClause(kind);
            boolean read = isLaw ? readLaw(kind) : readOrder(kind);
            if (read && skip(IF)) {
                text.beginPlace(TEST_PLACE);
                read = readTest(0, 0);
            }
            return read;
        }

        private boolean readLaw(int kind) {
            if (kind == BARS) {
                return skip(kind);
            }
            return (kind == READS || kind == COSTS || kind == FEEDS) && readSumBehind(kind, 0);
        }

        private boolean readOrder(int kind) {
            boolean read;
            switch (kind) {
                case ATTACK:
                    read = readSumBehind(kind, 0) && readSumBehind(AT, 1);
                    break;
                case SHIFT:
                    read = readSumBehind(kind, 0) && readSumBehind(AT, 1) && readSumBehind(BY, 2);
                    break;
                case SHOW:
                    read = readSumBehind(kind, 0) && readSumBehind(TO, 1);
                    break;
                case PASS:
                    read = skip(kind);
                    break;
                default:
                    return false;
            }
            return read && (!skip(TIMES) || readTimes());
        }

        private boolean readTimes() {
            int times = values[here];
            if (!within(times, 1, TIMES_MOST) || !skip(NUMBER)) {
                return false;
            }
            text.setTimes(times);
            return true;
        }

        private boolean readSumBehind(int kind, int place) {
            if (!skip(kind)) {
                return false;
            }
            text.beginPlace(place);
            return readSum(0, 0);
        }

        /** A TEST at level 0, a BOTH at 1, a PLAIN at 2, within so many brackets. */
        private boolean readTest(int level, int brackets) {
            if (level >= 2) {
                return readPlain(brackets);
            }
            if (!readTest(level + 1, brackets)) {
                return false;
            }
            int joint = level == 0 ? OR : AND;
            for (int n = 0; n < TAPE_MOST && skip(joint); n++) {
                if (!readTest(level + 1, brackets)) {
                    return false;
                }
                text.put(joint, 0);
            }
            return true;
        }

        private boolean readPlain(int brackets) {
            int nots = 0;
            for (int n = 0; n < TAPE_MOST && skip(NOT); n++) {
                nots++;
            }
            if (kinds[here] == '(') {
                if (brackets >= BRACKETS_MOST || !skip('(') || !readTest(0, brackets + 1) || !skip(')')) {
                    return false;
                }
            } else {
                if (!readSum(0, brackets)) {
                    return false;
                }
                int comparison = kinds[here];
                if (!(skip('<') || skip('>') || skip('=')) || !readSum(0, brackets)) {
                    return false;
                }
                text.put(comparison, 0);
            }
            if (nots % 2 == 1) {
                text.put(NOT, 0);
            }
            return true;
        }

        /** A SUM at level 0, a TERM at 1, a PART at 2, within so many brackets. */
        private boolean readSum(int level, int brackets) {
            if (level >= 2) {
                return readPart(brackets);
            }
            if (!readSum(level + 1, brackets)) {
                return false;
            }
            for (int n = 0; n < TAPE_MOST; n++) {
                int operation = kinds[here];
                boolean more = level == 0 ? skip('+') || skip('-') : skip('*') || skip('/') || skip('%');
                if (!more) {
                    return true;
                }
                if (!readSum(level + 1, brackets)) {
                    return false;
                }
                text.put(operation, 0);
            }
            return true;
        }

        private boolean readPart(int brackets) {
            if (kinds[here] == '[') {
                return brackets < BRACKETS_MOST && skip('[') && readSum(0, brackets + 1) && skip(']');
            }
            if (parts >= PARTS_MOST) {
                return false;
            }
            parts++;
            int number = values[here];
            if (number <= NUMBER_MOST && skip(NUMBER)) {
                text.put(NUMBER, number);
                return true;
            }
            int word = isLaw ? readLawWord() : readOrderWord();
            text.put(WORD, word);
            return word != NONE;
        }

        private int readLawWord() {
            int kind = kinds[here];
            if (kind < SIDE || kind > MOOD) {
                return NONE;
            }
            here++;
            return kind - SIDE;
        }

        private int readOrderWord() {
            int kind = kinds[here];
            if (kind == DAY || kind == DONE || kind == LATEST) {
                here++;
                return kind == DAY ? ORDER_DAY : kind == DONE ? ORDER_DONE : ORDER_LATEST;
            }
            if (kind != LINE && kind != SUPPLY && kind != TEMPER) {
                return NONE;
            }
            here++;
            int which = values[here];
            int most = kind == LINE ? COLUMNS - 1 : SIDES - 1;
            if (kinds[here] != NUMBER || which > most) {
                return NONE;
            }
            here++;
            return which + (kind == LINE ? ORDER_LINE : kind == SUPPLY ? ORDER_SUPPLY : ORDER_TEMPER);
        }
    }

    /** Reckons sums and tests by the values of the words that were set ahead. */
    private static final class Reckoner {
        private final long[] stack = new long[PARTS_MOST + 1];
        private final int[] words = new int[WORD_VALUES];

        void setOrderWords(Front front, int done, int latest) {
            words[ORDER_DAY] = front.theDay();
            words[ORDER_DONE] = done;
            words[ORDER_LATEST] = latest;
            for (int column = 0; column < COLUMNS; column++) {
                words[ORDER_LINE + column] = front.lineAt(column);
            }
            for (int side = 0; side < SIDES; side++) {
                words[ORDER_SUPPLY + side] = front.supplyOf(side);
                words[ORDER_TEMPER + side] = front.temperOf(side);
            }
        }

        /** The words of a side alone; what is asked besides is set behind it. */
        void setLawWords(Front front, int side, int mood) {
            words[LAW_SIDE] = side;
            words[LAW_COLUMN] = NONE;
            words[LAW_LINE] = NONE;
            words[LAW_MEN] = NONE;
            words[LAW_FOES] = NONE;
            words[LAW_SUPPLY] = front.supplyOf(side);
            words[LAW_TEMPER] = front.temperOf(side);
            words[LAW_SIGN] = NONE;
            words[LAW_DAY] = front.theDay();
            words[LAW_MOOD] = mood;
        }

        void setColumnWords(Front front, int side, int column) {
            words[LAW_COLUMN] = column;
            words[LAW_LINE] = front.lineAt(column);
            words[LAW_MEN] = front.menAt(side, column);
            words[LAW_FOES] = front.menAt(1 - side, column);
        }

        /** What the last clause of a kind that holds tells (1 for one without a sum). */
        int toldBy(Text law, int kind, int without) {
            if (law == null) {
                return without;
            }
            for (int clause = law.clauses - 1; clause >= 0; clause--) {
                int test = law.starts[clause * PLACES + TEST_PLACE];
                if (law.kinds[clause] == kind && (test == NONE || valueOf(law, test) == 1)) {
                    long value = kind == BARS ? 1 : valueOf(law, law.starts[clause * PLACES]);
                    if (value != BROKEN) {
                        return (int) value;
                    }
                }
            }
            return without;
        }

        /** The value of the sum or test that begins there; 0, if there is none. */
        long valueOf(Text text, int start) {
            if (start < 0) {
                return 0;
            }
            int top = NONE;
            for (int i = start; i < text.length && text.code[i] != STOP; i++) {
                int operation = text.code[i];
                int number = text.with[i];
                if (operation == NUMBER || operation == WORD) {
                    if (top + 1 < stack.length) {
                        top++;
                        boolean isWord = operation == WORD && within(number, 0, WORD_VALUES - 1);
                        stack[top] = isWord ? words[number] : number;
                    }
                } else if (operation == NOT) {
                    if (top >= 0 && stack[top] != BROKEN) {
                        stack[top] = 1 - stack[top];
                    }
                } else if (top >= 1) {
                    top--;
                    stack[top] = joined(operation, stack[top], stack[top + 1]);
                }
            }
            return top == 0 ? stack[0] : BROKEN;
        }

        /** As nothing that is asked changes anything, what stands behind "or", "and" may be asked ahead. */
        private static long joined(int operation, long a, long b) {
            if (operation == OR) {
                return a == 0 ? b : a;
            }
            if (operation == AND) {
                return a == 1 ? b : a;
            }
            if (a == BROKEN || b == BROKEN) {
                return BROKEN;
            }
            long value = BROKEN;
            switch (operation) {
                case '+':
                    value = a + b;
                    break;
                case '-':
                    value = a - b;
                    break;
                case '*':
                    value = a * b;
                    break;
                case '/':
                    value = b == 0 ? BROKEN : a / b;
                    break;
                case '%':
                    value = b == 0 ? BROKEN : a % b;
                    break;
                case '<':
                    value = a < b ? 1 : 0;
                    break;
                case '>':
                    value = a > b ? 1 : 0;
                    break;
                case '=':
                    value = a == b ? 1 : 0;
                    break;
                default:
                    break;
            }
            return value > SUM_MOST || value < -SUM_MOST ? BROKEN : value;
        }
    }

    /** What is law, and the acts, on the front itself or on one on paper. */
    private static final class War {
        private final Book book;
        private final Reckoner reckoner = new Reckoner();

        War(Book ofWar) {
            book = ofWar;
        }

        int costOf(Text law, Front front, int side, int column) {
            reckoner.setLawWords(front, side, book.mood);
            reckoner.setColumnWords(front, side, column);
            int told = reckoner.toldBy(law, COSTS, COST_WITHOUT);
            return Math.max(0, Math.min(told, LAW_TELLS_MOST));
        }

        boolean isBarred(Front front, int side, int column) {
            reckoner.setLawWords(front, side, book.mood);
            reckoner.setColumnWords(front, side, column);
            return reckoner.toldBy(book.lawInForce(), BARS, 0) == 1;
        }

        int feedOf(Front front, int side) {
            reckoner.setLawWords(front, side, book.mood);
            reckoner.words[LAW_MEN] = front.menOf(side);
            int told = reckoner.toldBy(book.lawInForce(), FEEDS, FEED_WITHOUT);
            return Math.max(0, Math.min(told, LAW_TELLS_MOST));
        }

        int readingOf(Front front, int sign, int side) {
            reckoner.setLawWords(front, side, book.mood);
            reckoner.words[LAW_SIGN] = sign;
            int told = reckoner.toldBy(book.lawInForce(), READS, book.readings[pair(sign, side)]);
            return Math.max(-READS_MOST, Math.min(told, READS_MOST));
        }

        int doAttack(Front front, int side, int column) {
            if (!isSide(side) || !isColumn(column)) {
                return WRONG_NUMBER;
            }
            if (front.menAt(side, column) == 0 || isBarred(front, side, column)) {
                return CANNOT_BE;
            }
            int cost = costOf(book.lawInForce(), front, side, column);
            if (front.supplyOf(side) < cost) {
                return CANNOT_BE;
            }
            front.setSupply(side, front.supplyOf(side) - cost);
            boolean wins = front.isStronger(side, column);
            boolean goesOn = wins && front.canGoOn(side, column);
            int loser = wins ? 1 - side : side;
            int men = front.menAt(loser, column);
            front.setMen(loser, column, men - men / 2);
            if (goesOn) {
                front.setLine(column, front.lineAt(column) + (side == 0 ? 1 : -1));
            }
            return goesOn ? 1 : 0;
        }

        int doShift(Front front, int side, int column, int men) {
            int next = men > 0 ? column + 1 : column - 1;
            if (!isSide(side) || !isColumn(column) || !isColumn(next) || men == 0 || !within(men, -MEN_MOST, MEN_MOST)) {
                return WRONG_NUMBER;
            }
            int left = front.menAt(side, column) - Math.abs(men);
            int there = front.menAt(side, next) + Math.abs(men);
            if (left < 0 || there > MEN_MOST) {
                return CANNOT_BE;
            }
            front.setMen(side, column, left);
            front.setMen(side, next, there);
            return left;
        }

        int doShow(Front front, int sign, int side) {
            if (!isSign(sign) || !isSide(side)) {
                return WRONG_NUMBER;
            }
            int shown = 0;
            int next = sign;
            int to = side;
            while (shown < SHOWN_MOST && isSign(next)) {
                front.setTemper(to, front.temperOf(to) + readingOf(front, next, to));
                next = book.answers[pair(next, to)];
                to = 1 - to;
                shown++;
            }
            return shown;
        }

        int doPass(Front front) {
            if (front.theDay() >= DAY_MOST) {
                return CANNOT_BE;
            }
            int first = feedOf(front, 0);
            int second = feedOf(front, 1);
            front.setSupply(0, front.supplyOf(0) + first);
            front.setSupply(1, front.supplyOf(1) + second);
            front.setDay(front.theDay() + 1);
            return front.theDay();
        }

        /** How often the line went on. */
        int runDecades(Front front, int seed, int n) {
            int wentOn = 0;
            int s = seed;
            for (int i = 0; i < n && front.theDay() < DAY_MOST; i++) {
                s = nextDraw(s);
                int side = s % SIDES;
                s = nextDraw(s);
                int which = s % COLUMNS;
                s = nextDraw(s);
                int kind = s % 3;
                if (kind == 0 && doAttack(front, side, which) == 1) {
                    wentOn++;
                } else if (kind == 1) {
                    doShow(front, which, side);
                }
                doPass(front);
            }
            return wentOn;
        }

        private static int nextDraw(int s) {
            return (int) ((s * 1103L + 12345L) % 1000003L);
        }
    }

    /** What is found out on paper: nothing here changes the book. */
    private static final class Paper {
        private final Book book;
        private final War war;
        /** The costs by which the latest set of columns was chosen. */
        private final int[] costs = new int[COLUMNS];

        Paper(Book ofWar, War theWar) {
            book = ofWar;
            war = theWar;
        }

        /** Whether a set has fewer than the best one so far; sets come from the lowest up. */
        private static boolean isFewer(int set, int best) {
            return best == NONE || Integer.bitCount(set) < Integer.bitCount(best);
        }

        int treatyWords() {
            int best = NONE;
            for (int set = 0; set < SETS; set++) {
                if (isFewer(set, best) && worthOf(set, 0) >= book.need && worthOf(set, 1) >= book.need) {
                    best = set;
                }
            }
            return best;
        }

        private int worthOf(int set, int side) {
            int worth = 0;
            for (int word = 0; word < WORDS; word++) {
                if ((set >> word & 1) == 1) {
                    worth += book.worths[pair(word, side)];
                }
            }
            return worth;
        }

        /** PROBABLY with one word more heard, paused or not (NONE: with no word more). */
        int probablyWith(int word, int paused) {
            long first = partsOf(0);
            long second = partsOf(1);
            if (isWord(word)) {
                first *= partAt(word, 0, paused);
                second *= partAt(word, 1, paused);
            }
            long both = first + second;
            return both <= 0 ? 500000 : (int) (first * 1000000L / both);
        }

        private long partsOf(int side) {
            long parts = 1;
            for (int i = 0; i < book.heardCount && i < HEARD_MOST; i++) {
                parts *= partAt(book.heardWords[i], side, book.heardPaused[i]);
            }
            return parts;
        }

        private int partAt(int word, int side, int paused) {
            int pauses = book.pauses[pair(word, side)];
            return paused == 1 ? pauses : PAUSES_MOST - pauses;
        }

        int wordToAsk() {
            int best = 0;
            for (int word = 1; word < WORDS; word++) {
                if (differenceAt(word) > differenceAt(best)) {
                    best = word;
                }
            }
            return best;
        }

        int differenceAt(int word) {
            return Math.abs(probablyWith(word, 1) - probablyWith(word, 0));
        }

        /** How many signs a chain shows, below 0 if one would come again; those of a set are not answered. */
        int chainFrom(int sign, int side, int still) {
            int seen = 0;
            int next = sign;
            int to = side;
            for (int n = 0; n <= SIGNS * SIDES && isSign(next); n++) {
                int bit = 1 << pair(next, to);
                if ((seen & bit) != 0) {
                    return -Integer.bitCount(seen);
                }
                seen |= bit;
                next = (still >> next & 1) == 1 ? NONE : book.answers[pair(next, to)];
                to = 1 - to;
            }
            return Integer.bitCount(seen);
        }

        int signsToStill() {
            int best = NONE;
            for (int set = 0; set < SETS; set++) {
                if (isFewer(set, best) && allChainsEnd(set)) {
                    best = set;
                }
            }
            return best;
        }

        private boolean allChainsEnd(int still) {
            for (int sign = 0; sign < SIGNS; sign++) {
                if (chainFrom(sign, 0, still) < 0 || chainFrom(sign, 1, still) < 0) {
                    return false;
                }
            }
            return true;
        }

        int columnsToPush(int side) {
            Front front = book.front;
            int can = 0;
            for (int column = 0; column < COLUMNS; column++) {
                costs[column] = war.costOf(book.lawInForce(), front, side, column);
                if (front.isStronger(side, column) && front.canGoOn(side, column)
                        && !war.isBarred(front, side, column)) {
                    can |= 1 << column;
                }
            }
            int best = 0;
            for (int set = 1; set < SETS; set++) {
                if ((set & ~can) == 0 && costOfSet(set) <= front.supplyOf(side) && pushesMore(set, best)) {
                    best = set;
                }
            }
            return best;
        }

        private boolean pushesMore(int set, int best) {
            int more = Integer.bitCount(set) - Integer.bitCount(best);
            return more > 0 || more == 0 && costOfSet(set) < costOfSet(best);
        }

        /** By the costs of the side that was asked latest. */
        int costOfSet(int set) {
            int cost = 0;
            for (int column = 0; column < COLUMNS; column++) {
                if ((set >> column & 1) == 1) {
                    cost += costs[column];
                }
            }
            return cost;
        }

        /** Each man too many up to a column has to go over its upper edge once, each that is missing likewise. */
        int menToLevel(int side) {
            int all = book.front.menOf(side);
            int shifted = 0;
            int tooMany = 0;
            for (int column = 0; column < COLUMNS; column++) {
                int due = all / COLUMNS + (column < all % COLUMNS ? 1 : 0);
                tooMany += book.front.menAt(side, column) - due;
                shifted += Math.abs(tooMany);
            }
            return shifted;
        }

        int columnsForPosts(int reach) {
            int best = NONE;
            for (int set = 0; set < SETS; set++) {
                if (isFewer(set, best) && seesAll(set, reach)) {
                    best = set;
                }
            }
            return best;
        }

        private static boolean seesAll(int set, int reach) {
            int seen = 0;
            for (int post = 0; post < COLUMNS; post++) {
                for (int column = 0; column < COLUMNS; column++) {
                    if ((set >> post & 1) == 1 && Math.abs(post - column) <= reach) {
                        seen |= 1 << column;
                    }
                }
            }
            return seen == SETS - 1;
        }

        int foesOnWay(int side, int from, int well, int step) {
            int foes = 0;
            int column = from;
            for (int n = 0; n < COLUMNS && column != well; n++) {
                column = Math.floorMod(column + step, COLUMNS);
                foes += book.front.menAt(1 - side, column);
            }
            return foes;
        }

        long chanceToHold(int days) {
            long chance = 1000000000000L;
            for (int day = 0; day < days; day++) {
                chance = chance * (100 - book.front.temperOf(0)) / 100;
                chance = chance * (100 - book.front.temperOf(1)) / 100;
            }
            return chance;
        }

        int signsThatFit() {
            int set = 0;
            for (int sign = 0; sign < SIGNS; sign++) {
                if (isAsTold(sign)) {
                    set |= 1 << sign;
                }
            }
            return set;
        }

        private boolean isAsTold(int sign) {
            for (int i = 0; i < book.toldCount && i < TOLD_MOST; i++) {
                if (war.readingOf(book.front, sign, book.toldSides[i]) != book.toldBys[i]) {
                    return false;
                }
            }
            return true;
        }

        int costOfAll(Text law) {
            int cost = 0;
            for (int side = 0; side < SIDES; side++) {
                for (int column = 0; column < COLUMNS; column++) {
                    cost += war.costOf(law, book.front, side, column);
                }
            }
            return cost;
        }
    }
}

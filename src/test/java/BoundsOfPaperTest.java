import java.io.IOException;

/** The sentences of "Terms", III, on what is found out on paper: each with a test of its own. */
public final class BoundsOfPaperTest {
    private static final String PAPER = "Paper";
    private static Bounds bounds;

    public static void main(String[] args) throws IOException {
        bounds = new Bounds(PAPER);
        treaties();
        prisoners();
        partsOfSides();
        probably();
        asking();
        chains();
        stilled();
        pushed();
        level();
        posts();
        ways();
        holding();
        which();
        compared();
        bounds.end();
    }

    private static void worths(HyphenWar x, int first, int second) {
        for (int w = 0; w < 8; w++) {
            x.word(w, 0, 0, first);
            x.word(w, 1, 0, second);
        }
    }

    private static void treaty(HyphenWar x, int need, int words, int set) {
        x.terms(1, need);
        bounds.are("treaty() where " + need + " is needed", new long[] {x.treaty(0), x.treaty(1)}, words, set);
    }

    private static void treaties() {
        bounds.of(PAPER, "A TREATY: the fewest WORDS, together WORTH NEED or more to each SIDE; the lowest as bits.");
        HyphenWar x = new HyphenWar();
        treaty(x, 1, -1, -1);
        worths(x, 9, 9);
        treaty(x, 1, 1, 1);
        treaty(x, 9, 1, 1);
        treaty(x, 10, 2, 3);
        treaty(x, 40, 5, 31);
        worths(x, 5, 5);
        treaty(x, 40, 8, 255);
        treaty(x, 35, 7, 127);
        worths(x, 4, 9);
        treaty(x, 32, 8, 255);
        treaty(x, 33, -1, -1);
        worths(x, 9, 4);
        treaty(x, 32, 8, 255);
        treaty(x, 33, -1, -1);
        worths(x, 9, 0);
        treaty(x, 1, -1, -1);
        worths(x, -9, -9);
        treaty(x, 1, -1, -1);
        // fewer ahead of lower: the word 7 alone, not 0 and 1
        worths(x, 0, 0);
        x.word(0, 0, 0, 6);
        x.word(1, 1, 0, 6);
        treaty(x, 6, 2, 3);
        x.word(7, 0, 0, 6);
        x.word(7, 1, 0, 6);
        treaty(x, 6, 1, 128);
        x.word(4, 0, 0, 6);
        x.word(4, 1, 0, 6);
        treaty(x, 6, 1, 16);
        x.word(4, 1, 0, 5);
        treaty(x, 6, 1, 128);
        // 9 and -1, -1 and 9: just 8 together
        worths(x, -9, -9);
        x.word(2, 0, 0, 9);
        x.word(2, 1, 0, -1);
        x.word(5, 0, 0, -1);
        x.word(5, 1, 0, 9);
        treaty(x, 8, 2, 36);
        treaty(x, 9, -1, -1);
    }

    private static void prisoners() {
        bounds.of(PAPER, "A PRISONER: by all HEARD, the two SIDES alike likely at first:");
        HyphenWar x = new HyphenWar();
        x.word(0, 0, 1, 9);
        x.word(0, 1, 1, 3);
        bounds.is("probably(), nothing heard", x.probably(), 500000);
        // 3 to the n-th by that and 1: 3/4, 9/10, 27/28 ..
        int[] due = {750000, 900000, 964285, 987804, 995901, 998630, 999542, 999847};
        for (int i = 0; i < 8; i++) {
            x.hear(0, 1);
            bounds.is("probably(), heard " + (i + 1), x.probably(), due[i]);
        }
        x.hear(0, 0);
        bounds.is("probably(), a ninth is not heard", x.probably(), 999847);
        x.forget();
        bounds.is("probably(), nothing heard", x.probably(), 500000);
        // each word as it is now, whichever was heard first
        x.word(7, 0, 1, 2);
        x.word(7, 1, 1, 4);
        x.hear(7, 1);
        x.hear(0, 1);
        bounds.is("probably(), 18 and 12", x.probably(), 600000);
        x.word(7, 1, 1, 6);
        bounds.is("probably(), 18 and 18", x.probably(), 500000);
    }

    private static void partsOfSides() {
        bounds.of(PAPER, "the parts of SIDE 0 are 1 times, for each, PAUSES (or 10 less that) of its own; likewise of SIDE 1;");
        int[][] rows = {{0, 1, 0, 526315}, {1, 0, 1000000, 473684}, {10, 0, 1000000, 0}, {0, 10, 0, 1000000}, {10, 10, 500000, 500000}, {0, 0, 500000, 500000},
            {7, 2, 777777, 272727}, {2, 7, 222222, 727272}, {10, 9, 526315, 0}, {9, 10, 473684, 1000000}, {5, 5, 500000, 500000}};
        for (int[] row : rows) {
            HyphenWar x = new HyphenWar();
            x.word(3, 0, 1, row[0]);
            x.word(3, 1, 1, row[1]);
            x.hear(3, 1);
            bounds.is("probably(), paused, " + row[0] + " and " + row[1], x.probably(), row[2]);
            x.forget();
            x.hear(3, 0);
            bounds.is("probably(), not paused, " + row[0] + " and " + row[1], x.probably(), row[3]);
        }
        // 7 * 3 and 2 * 8
        HyphenWar x = new HyphenWar();
        x.word(3, 0, 1, 7);
        x.word(3, 1, 1, 2);
        x.hear(3, 1);
        x.hear(3, 0);
        bounds.is("probably(), 21 and 16", x.probably(), 567567);
    }

    private static void probably() {
        bounds.of(PAPER, "PROBABLY: parts of SIDE 0 by both together, in millionths, cut (500,000, if both are 0).");
        HyphenWar x = new HyphenWar();
        x.hear(0, 1);
        int[][] rows = {{5, 10, 333333}, {10, 5, 666666}, {1, 6, 142857}, {6, 1, 857142}, {1, 10, 90909}, {10, 1, 909090}, {0, 0, 500000}, {0, 1, 0}, {1, 0, 1000000}};
        for (int[] row : rows) {
            x.word(0, 0, 1, row[0]);
            x.word(0, 1, 1, row[1]);
            bounds.is("probably(), " + row[0] + " and " + row[1], x.probably(), row[2]);
        }
        // both 0 by different words
        HyphenWar y = new HyphenWar();
        y.word(0, 0, 1, 0);
        y.word(1, 1, 1, 0);
        y.hear(0, 1);
        y.hear(1, 1);
        bounds.is("probably(), 0 by one word, 0 by the other", y.probably(), 500000);
        // the most parts that can be: 100,000,000 each, and 100,000,000 of 143,046,721
        HyphenWar z = new HyphenWar();
        z.word(2, 0, 1, 10);
        z.word(2, 1, 1, 10);
        for (int i = 0; i < 8; i++) {
            z.hear(2, 1);
        }
        bounds.is("probably(), 10 eight times each", z.probably(), 500000);
        z.word(2, 1, 1, 9);
        bounds.is("probably(), 10 and 9 eight times", z.probably(), 699072);
        z.word(2, 0, 1, 1);
        z.word(2, 1, 1, 10);
        bounds.is("probably(), 1 of 100,000,001", z.probably(), 0);
        z.word(2, 0, 1, 10);
        z.word(2, 1, 1, 1);
        bounds.is("probably(), 100,000,000 of 100,000,001", z.probably(), 999999);
    }

    private static void asks(HyphenWar x, int word, int differs) {
        bounds.are("ask()", new long[] {x.ask(0), x.ask(1)}, word, differs);
    }

    private static void asking() {
        bounds.of(PAPER, "To ASK: the WORD at which PROBABLY, paused or not, differs most; the lowest.");
        HyphenWar x = new HyphenWar();
        asks(x, 0, 0);
        x.word(7, 0, 1, 6);
        // 6 of 11 are 545,454; 4 of 9 are 444,444
        asks(x, 7, 101010);
        x.word(5, 0, 1, 6);
        asks(x, 5, 101010);
        // the other way round: 4 of 9, 6 of 11
        x.word(2, 0, 1, 4);
        asks(x, 2, 101010);
        x.word(3, 0, 1, 2);
        x.word(3, 1, 1, 8);
        asks(x, 3, 600000);
        x.word(0, 0, 1, 0);
        x.word(0, 1, 1, 0);
        asks(x, 3, 600000);
        x.word(6, 0, 1, 10);
        x.word(6, 1, 1, 0);
        asks(x, 6, 1000000);
        x.word(4, 0, 1, 0);
        x.word(4, 1, 1, 10);
        asks(x, 4, 1000000);
        // side 1 can't be: sure, or at words where side 0 can't be either 500,000; then neither can be
        x.hear(6, 1);
        asks(x, 0, 500000);
        x.hear(4, 1);
        asks(x, 0, 0);
        x.forget();
        x.hear(4, 1);
        x.word(4, 0, 1, 5);
        x.word(4, 1, 1, 5);
        asks(x, 6, 1000000);
        // all HEARD there can be: it is on paper, and a word more is reckoned
        HyphenWar y = new HyphenWar();
        y.word(1, 0, 1, 9);
        y.word(1, 1, 1, 1);
        for (int i = 0; i < 8; i++) {
            y.hear(1, i % 2);
        }
        asks(y, 1, 800000);
        bounds.is("count(0)", y.count(0), 8);
    }

    private static void chained(HyphenWar x, int sign, int side, int shown, int again) {
        bounds.are("chain(" + sign + ", " + side + ", ..)", new long[] {x.chain(sign, side, 0), x.chain(sign, side, 1)}, shown, again);
    }

    private static void chains() {
        bounds.of(PAPER, "A CHAIN from a SIGN shown to a SIDE: how many SIGNS are shown, each to a SIDE, till there is no answer, or till one would be shown to a SIDE again.");
        HyphenWar x = new HyphenWar();
        chained(x, 0, 0, 1, 0);
        x.sign(0, 0, 1, 0);
        chained(x, 0, 0, 2, 0);
        chained(x, 0, 1, 1, 0);
        // to the same side again, not to the other one
        x.sign(0, 1, 1, 0);
        chained(x, 0, 0, 2, 1);
        chained(x, 0, 1, 2, 1);
        // two ahead of a ring of two
        x.sign(5, 1, 1, 6);
        x.sign(6, 0, 1, 0);
        chained(x, 5, 1, 4, 1);
        x.sign(0, 0, 1, -1);
        chained(x, 5, 1, 4, 0);
        chained(x, 6, 0, 3, 0);
        for (int s = 0; s < 8; s++) {
            x.sign(s, 0, 1, s);
            x.sign(s, 1, 1, s + 1 < 8 ? s + 1 : -1);
        }
        chained(x, 0, 0, 16, 0);
        chained(x, 0, 1, 15, 0);
        chained(x, 7, 1, 1, 0);
        x.sign(7, 1, 1, 7);
        chained(x, 0, 0, 16, 1);
        chained(x, 7, 0, 2, 1);
        x.sign(7, 1, 1, 0);
        for (int s = 0; s < 8; s++) {
            chained(x, s, 0, 16, 1);
            chained(x, s, 1, 16, 1);
        }
        bounds.are("TEMPER, what can be undone: on paper", new long[] {x.of(0, 1), x.of(1, 1), x.count(3)}, 20, 20, 0);
    }

    private static void still(HyphenWar x, int signs, int set) {
        bounds.are("stilled()", new long[] {x.stilled(0), x.stilled(1)}, signs, set);
    }

    private static void stilled() {
        bounds.of(PAPER, "STILLED: the fewest SIGNS that are not answered any more by either SIDE, so that no CHAIN comes to a SIGN shown to a SIDE again; the lowest as bits.");
        HyphenWar x = new HyphenWar();
        still(x, 0, 0);
        x.sign(0, 0, 1, 0);
        still(x, 0, 0);
        x.sign(0, 1, 1, 0);
        still(x, 1, 1);
        x.sign(0, 1, 1, -1);
        x.sign(7, 0, 1, 7);
        x.sign(7, 1, 1, 7);
        still(x, 1, 128);
        // a ring of 6 to 0, 7 to 1, 6 to 0: the lower of two
        x.sign(7, 0, 1, -1);
        x.sign(6, 0, 1, 7);
        x.sign(7, 1, 1, 6);
        still(x, 1, 64);
        // 6 to 1, 5 to 0: fewer ahead of lower, one for both rings, by either side
        x.sign(5, 0, 1, 6);
        x.sign(6, 1, 1, 5);
        still(x, 1, 64);
        x.sign(4, 0, 1, 4);
        x.sign(4, 1, 1, 4);
        still(x, 2, 80);
        // 7 and 5 are in a ring each besides, but 6 alone ends both
        x.sign(7, 0, 1, 5);
        x.sign(5, 1, 1, 7);
        still(x, 3, 112);
        for (int s = 0; s < 8; s++) {
            x.sign(s, 0, 1, s);
            x.sign(s, 1, 1, s);
        }
        still(x, 8, 255);
        x.sign(3, 1, 1, -1);
        still(x, 7, 247);
        // all in one ring: one is enough
        for (int s = 0; s < 8; s++) {
            x.sign(s, 1, 1, (s + 1) % 8);
        }
        still(x, 1, 1);
        bounds.are("reads(), on paper", new long[] {x.reads(0, 0, 1), x.reads(0, 1, 1)}, 0, 1);
    }

    private static void pushes(HyphenWar x, int side, int columns, int costs, int set) {
        bounds.are("pushed(" + side + ", ..)", new long[] {x.pushed(side, 0), x.pushed(side, 1), x.pushed(side, 2)}, columns, costs, set);
    }

    private static void pushed() {
        bounds.of(PAPER, "PUSHED by a SIDE: COLUMNS in which it is not BARRED, has more MEN than the other, LINE can go on, of which all COSTS together are no more than SUPPLY:"
                + " the most of them, then the least COSTS, then the lowest bits.");
        HyphenWar x = new HyphenWar();
        pushes(x, 0, 0, 0, 0);
        pushes(x, 1, 0, 0, 0);
        // 2 against 1, 1 against 1, 1 against 2, 1 against 0
        int[][] men = {{2, 1}, {1, 1}, {1, 2}, {1, 0}};
        for (int c = 0; c < 4; c++) {
            x.men(0, c, men[c][0]);
            x.men(1, c, men[c][1]);
        }
        pushes(x, 0, 2, 10, 9);
        pushes(x, 1, 1, 5, 4);
        for (int i = 0; i < 3; i++) {
            x.attack(0, 3);
        }
        bounds.is("LINE", x.at(3, 0), 3);
        pushes(x, 0, 1, 5, 1);
        x.men(0, 3, 0);
        x.men(1, 3, 1);
        pushes(x, 1, 2, 10, 12);
        bounds.force(x, "bars if column=2;costs 0 if column=3");
        pushes(x, 1, 1, 0, 8);
        for (int i = 0; i < 6; i++) {
            x.attack(1, 3);
        }
        bounds.is("LINE", x.at(3, 0), -3);
        pushes(x, 1, 0, 0, 0);
        x.men(0, 3, 2);
        pushes(x, 0, 2, 5, 9);
        HyphenWar y = new HyphenWar();
        for (int c = 0; c < 8; c++) {
            y.men(1, c, 1);
        }
        pushes(y, 1, 8, 40, 255);
        // SUPPLY 50: just so, one too many, all too dear
        bounds.force(y, "costs 25");
        pushes(y, 1, 2, 50, 3);
        bounds.force(y, "costs 25;costs 26 if column=0");
        pushes(y, 1, 2, 50, 6);
        bounds.force(y, "costs 51;costs 50 if column=7");
        pushes(y, 1, 1, 50, 128);
        bounds.force(y, "costs 51");
        pushes(y, 1, 0, 0, 0);
        // the most ahead of the least costs, the least costs ahead of the lowest bits
        bounds.force(y, "costs 40-column*5");
        pushes(y, 1, 4, 50, 240);
        HyphenWar z = new HyphenWar();
        for (int c = 0; c < 8; c++) {
            z.men(0, c, 99);
        }
        bounds.force(z, "costs 26;costs 25 if column=5 or column=6");
        pushes(z, 0, 2, 50, 96);
        bounds.force(z, "costs 26;costs 20 if column=5 or column=6");
        pushes(z, 0, 2, 40, 96);
        bounds.force(z, "costs 30;costs 1 if column=7");
        pushes(z, 0, 2, 31, 129);
        bounds.force(z, "costs 0");
        pushes(z, 0, 8, 0, 255);
        pushedByEach();
    }

    /** What bars, COSTS and SUPPLY are of the side that pushes. */
    private static void pushedByEach() {
        HyphenWar x = bounds.under("costs 10+side*15;bars if side=1 and column=7;bars if side=0 and column=0");
        for (int c = 0; c < 8; c++) {
            x.men(c / 4, c, 3);
        }
        pushes(x, 0, 3, 30, 14);
        pushes(x, 1, 2, 50, 48);
        for (int i = 0; i < 3; i++) {
            x.attack(0, 1);
        }
        pushes(x, 0, 2, 20, 12);
        x.attack(0, 2);
        pushes(x, 0, 1, 10, 4);
        pushes(x, 1, 2, 50, 48);
        x.attack(1, 4);
        pushes(x, 1, 1, 25, 16);
        x.attack(1, 4);
        pushes(x, 1, 0, 0, 0);
        pushes(x, 0, 1, 10, 4);
    }

    private static void level() {
        bounds.of(PAPER, "LEVEL: the fewest men shifted by one COLUMN each, till a SIDE has as many MEN in each (one more in the lowest ones, as many as are left over).");
        HyphenWar x = new HyphenWar();
        bounds.is("level(0) of none", x.level(0), 0);
        for (int c = 0; c < 8; c++) {
            x.men(0, c, 1);
            bounds.is("level(0), one more in the lowest ones", x.level(0), 0);
        }
        x.men(0, 0, 0);
        // the last of seven goes to the one above: all of 1 .. 7 one down
        bounds.is("level(0) of seven, 0 is empty", x.level(0), 7);
        x.men(0, 0, 2);
        bounds.is("level(0) of nine", x.level(0), 0);
        x.men(0, 0, 1);
        x.men(0, 7, 2);
        bounds.is("level(0) of nine, the one left over at 7", x.level(0), 7);
        HyphenWar y = new HyphenWar();
        y.men(1, 7, 99);
        // 12 each and 3 left over: 13, 13, 13, 12 ..: 13 * 7 + 13 * 6 + 13 * 5 + 12 * (4 + 3 + 2 + 1)
        bounds.is("level(1), 99 at 7", y.level(1), 354);
        bounds.is("level(0) of none", y.level(0), 0);
        y.men(1, 7, 0);
        y.men(1, 0, 99);
        // 13 * (1 + 2) + 12 * (3 + 4 + 5 + 6 + 7)
        bounds.is("level(1), 99 at 0", y.level(1), 339);
        y.men(1, 0, 1);
        bounds.is("level(1), 1 at 0", y.level(1), 0);
        y.men(1, 0, 0);
        y.men(1, 1, 1);
        bounds.is("level(1), 1 at 1", y.level(1), 1);
        for (int c = 0; c < 8; c++) {
            y.men(1, c, c < 4 ? 99 : 0);
        }
        // 396: 49 each and 4 left over, 50 in the lowest four: 49, 98, 147, 196, 147, 98, 49
        bounds.is("level(1), 99 in four", y.level(1), 784);
        bounds.is("at(0, 2), on paper", y.at(0, 2), 99);
    }

    private static void posts() {
        bounds.of(PAPER, "POSTS: the fewest COLUMNS from each of which all up to a REACH are seen, so that all are; the lowest as bits.");
        HyphenWar x = new HyphenWar();
        // a reach of 1: 0, 3, 6; of 2: 0 .. 2 by 0, 3 .. 7 by 5; of 3: 0 and 4; from 4 on the lowest one that sees 7
        int[] sets = {0xff, 1 | 8 | 64, 1 | 32, 1 | 16, 8, 4, 2, 1};
        for (int reach = 0; reach < 8; reach++) {
            bounds.are("posts(" + reach + ", ..)", new long[] {x.posts(reach, 0), x.posts(reach, 1)}, Integer.bitCount(sets[reach]), sets[reach]);
        }
        x.men(0, 0, 99);
        bounds.is("posts(4, 1), whatever men are there", x.posts(4, 1), 8);
    }

    private static void goes(HyphenWar x, int[] way, int foes, int up, int columns) {
        int[] w = way;
        bounds.are("way(" + w[0] + ", " + w[1] + ", " + w[2] + ", ..)",
                new long[] {x.way(w[0], w[1], w[2], 0), x.way(w[0], w[1], w[2], 1), x.way(w[0], w[1], w[2], 2)}, foes, up, columns);
    }

    private static void ways() {
        bounds.of(PAPER, "A WAY for one of a SIDE from a COLUMN to the WELL (another COLUMN) along the front, one COLUMN by one, either way round at the ends as well (0 is next to 7):"
                + " the fewest foes met (MEN of the other SIDE in all COLUMNS come to); the way up, if both are alike.");
        HyphenWar x = new HyphenWar();
        goes(x, new int[] {0, 0, 7}, 0, 1, 7);
        goes(x, new int[] {1, 7, 0}, 0, 1, 1);
        goes(x, new int[] {0, 4, 3}, 0, 1, 7);
        goes(x, new int[] {0, 3, 4}, 0, 1, 1);
        x.men(1, 0, 5);
        x.men(1, 7, 6);
        x.men(1, 3, 1);
        // where it begins is not come to, the well is
        goes(x, new int[] {0, 0, 7}, 6, 0, 1);
        goes(x, new int[] {0, 7, 0}, 5, 1, 1);
        goes(x, new int[] {0, 0, 4}, 1, 1, 4);
        goes(x, new int[] {0, 0, 3}, 1, 1, 3);
        goes(x, new int[] {0, 2, 3}, 1, 1, 1);
        goes(x, new int[] {0, 4, 2}, 1, 0, 2);
        goes(x, new int[] {0, 2, 4}, 1, 1, 2);
        // 1 to 6: 3 alone upwards, 0 and 7 downwards
        goes(x, new int[] {0, 1, 6}, 1, 1, 5);
        x.men(1, 3, 11);
        goes(x, new int[] {0, 1, 6}, 11, 1, 5);
        x.men(1, 3, 12);
        goes(x, new int[] {0, 1, 6}, 11, 0, 3);
        goes(x, new int[] {0, 6, 1}, 11, 1, 3);
        x.men(1, 3, 10);
        goes(x, new int[] {0, 6, 1}, 10, 0, 5);
        // its own men are no foes
        goes(x, new int[] {1, 6, 1}, 0, 1, 3);
        HyphenWar y = new HyphenWar();
        for (int c = 0; c < 8; c++) {
            y.men(0, c, 99);
        }
        goes(y, new int[] {1, 5, 1}, 396, 1, 4);
        goes(y, new int[] {1, 5, 4}, 99, 0, 1);
        goes(y, new int[] {0, 5, 4}, 0, 1, 7);
    }

    private static void tempers(HyphenWar x, int side, int[] by) {
        for (int b : by) {
            x.sign(0, side, 0, b);
            x.show(0, side);
        }
    }

    private static void holding() {
        bounds.of(PAPER, "HOLDING: the chance, of 1,000,000,000,000 parts, that a truce holds n DAYS, which is broken each DAY in TEMPER of SIDE 0 and, of what is left,"
                + " in TEMPER of SIDE 1 of hundred (as now): each part is cut.");
        HyphenWar x = new HyphenWar();
        bounds.are("holds(), tempers 20", new long[] {x.holds(0), x.holds(1), x.holds(2), x.holds(6)}, 1000000000000L, 640000000000L, 409600000000L, 68719476736L);
        // 54,975,581,388.8 and 43,980,465,110.4
        bounds.are("holds(), cut", new long[] {x.holds(7), x.holds(8)}, 43980465110L, 28147497670L);
        tempers(x, 0, new int[] {20, 20, 20, 19});
        bounds.are("tempers", new long[] {x.of(0, 1), x.of(1, 1)}, 99, 20);
        bounds.are("holds(), tempers 99 and 20", new long[] {x.holds(1), x.holds(2), x.holds(3), x.holds(5), x.holds(6), x.holds(7)}, 8000000000L, 64000000L, 512000L, 32L, 0L, 0L);
        tempers(x, 1, new int[] {20, 20, 20, 19});
        bounds.are("holds(), tempers 99", new long[] {x.holds(0), x.holds(1), x.holds(2), x.holds(3), x.holds(4), x.holds(60)}, 1000000000000L, 100000000L, 10000L, 1L, 0L, 0L);
        HyphenWar y = new HyphenWar();
        tempers(y, 0, new int[] {-20});
        bounds.are("holds(), tempers 0 and 20", new long[] {y.holds(1), y.holds(2)}, 800000000000L, 640000000000L);
        tempers(y, 1, new int[] {-20});
        bounds.are("holds(), tempers 0", new long[] {y.holds(0), y.holds(1), y.holds(60)}, 1000000000000L, 1000000000000L, 1000000000000L);
        tempers(y, 1, new int[] {1});
        // 0.99 to the 60th, cut 60 times
        long left = 1000000000000L;
        for (int i = 0; i < 60; i++) {
            left = left * 99 / 100;
        }
        bounds.is("holds(60), tempers 0 and 1", y.holds(60), left);
    }

    private static void which() {
        bounds.of(PAPER, "WHICH: SIGNS that, shown to the SIDES TOLD, would change TEMPER just so (as it is read now, nothing cut at 0, 99).");
        HyphenWar x = new HyphenWar();
        bounds.is("which(), nothing told", x.which(), 255);
        x.tell(0, 0);
        x.tell(1, 0);
        bounds.is("which(), all are read as 0", x.which(), 255);
        x.tell(0, 1);
        bounds.is("which(), by 0 and by 1", x.which(), 0);
        x.forget();
        for (int s = 0; s < 8; s++) {
            x.sign(s, 0, 0, s < 4 ? 20 : -20);
            x.sign(s, 1, 0, s);
        }
        x.tell(0, 20);
        bounds.is("which()", x.which(), 15);
        x.tell(1, 3);
        bounds.is("which()", x.which(), 8);
        x.sign(3, 0, 0, 19);
        bounds.is("which(), as it is read now", x.which(), 0);
        x.sign(3, 0, 0, 20);
        // six told, the last of which matters
        for (int i = 0; i < 4; i++) {
            bounds.is("which()", x.which(), 8);
            x.tell(1, i < 3 ? 3 : 4);
        }
        bounds.is("which(), the sixth is another", x.which(), 0);
        // nothing cut at 99: 20 to 99, and 20 more; nothing cut at 0
        x.forget();
        for (int i = 0; i < 5; i++) {
            x.show(0, 0);
        }
        bounds.is("of(0, 1)", x.of(0, 1), 99);
        x.tell(0, 20);
        bounds.is("which() at 99", x.which(), 15);
        x.forget();
        for (int i = 0; i < 6; i++) {
            x.show(7, 0);
        }
        bounds.is("of(0, 1)", x.of(0, 1), 0);
        x.tell(0, -20);
        bounds.is("which() at 0", x.which(), 240);
        // answers don't matter, laws do
        x.sign(7, 0, 1, 0);
        bounds.is("which(), one is answered", x.which(), 240);
        bounds.force(x, "reads 0-99 if sign=2;reads 5 if sign>3");
        bounds.is("which(), by law", x.which(), 4);
    }

    private static void compared() {
        bounds.of(PAPER, "COMPARED: by a LAW in place of that in FORCE (NONE: none): what attacks of both SIDES in all COLUMNS COST together.");
        HyphenWar x = new HyphenWar();
        bounds.is("compare(-1)", x.compare(-1), 80);
        Due.law(x, "costs 99");
        Due.law(x, "costs 0;bars");
        Due.law(x, "costs 100 if side=0 and column=7;costs 0-1 if side=1 and column=0");
        Due.law(x, "costs men+2*foes+side");
        bounds.are("compare()", new long[] {x.compare(0), x.compare(1), x.compare(2), x.compare(3)}, 1584, 0, 169, 8);
        x.men(0, 0, 3);
        x.men(1, 7, 10);
        // 3 + 6 and 20 + 10 and 8
        bounds.is("compare(3)", x.compare(3), 47);
        x.force(0);
        bounds.are("compare(), one in force", new long[] {x.compare(-1), x.compare(0), x.compare(1), x.count(10)}, 80, 1584, 0, 0);
        bounds.are("compare() of no law", new long[] {x.compare(4), x.compare(-2), x.compare(Bounds.LEAST), x.compare(Bounds.MOST)}, -1, -1, -1, -1);
        bounds.is("at(0, 3), on paper", x.at(0, 3), 99);
    }
}

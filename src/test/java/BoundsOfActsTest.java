import java.io.IOException;

/** The sentences of "Terms", III, on attacks, shifts, signs and days, and of IV: each with a test of its own. */
public final class BoundsOfActsTest {
    private static final String III = "Terms III";
    private static final String IV = "Terms IV";
    private static Bounds bounds;

    public static void main(String[] args) throws IOException {
        bounds = new Bounds(III, IV);
        whoMayAttack();
        whatItCosts();
        lineGoesOn();
        halves();
        told();
        shifts();
        tempersChange();
        answers();
        fed();
        nextDay();
        decades();
        seeds();
        draws();
        eachTime();
        rows();
        imagesKeep();
        backToAll();
        bounds.end();
    }

    private static void whoMayAttack() {
        bounds.of(III, "To ATTACK (not BARRED, SUPPLY is what it COSTS or more, one MAN at least):");
        for (int side = 0; side < 2; side++) {
            int s = side;
            HyphenWar x = bounds.under("bars if column=1;costs 50 if column=2;costs 51 if column=3;costs 0 if column=4");
            for (int c = 1; c < 6; c++) {
                x.men(s, c, 1);
            }
            bounds.refused(x, "attack(), barred", y -> y.attack(s, 1), -3);
            bounds.refused(x, "attack() for 51 of 50", y -> y.attack(s, 3), -3);
            bounds.refused(x, "attack() without a man", y -> y.attack(s, 6), -3);
            bounds.is("SUPPLY", x.of(s, 0), 50);
            bounds.is("attack() for 50 of 50, with one man", x.attack(s, 2), 1);
            bounds.is("SUPPLY", x.of(s, 0), 0);
            bounds.refused(x, "attack() for 5 of 0", y -> y.attack(s, 5), -3);
            bounds.is("attack() for 0 of 0", x.attack(s, 4), 1);
            // without a man it can't be, though the other has none either
            x.men(s, 4, 0);
            bounds.refused(x, "attack() for 0 without a man", y -> y.attack(s, 4), -3);
        }
    }

    private static void whatItCosts() {
        bounds.of(III, "SUPPLY is less by that;");
        HyphenWar x = bounds.under("costs column*7;costs 50-supply if column=7");
        for (int c = 0; c < 8; c++) {
            x.men(0, c, c % 2);
            x.men(1, c, 1);
        }
        bounds.is("attack(1, 2), more men", x.attack(1, 2), 1);
        bounds.are("SUPPLY", new long[] {x.of(0, 0), x.of(1, 0)}, 50, 36);
        bounds.is("attack(1, 3), as many", x.attack(1, 3), 0);
        bounds.are("SUPPLY", new long[] {x.of(0, 0), x.of(1, 0)}, 50, 15);
        // by what it costs ahead of it
        bounds.is("attack(1, 7), cost 35", x.attack(1, 7), -3);
        bounds.is("attack(0, 1)", x.attack(0, 1), 0);
        bounds.is("attack(0, 7), cost 7", x.attack(0, 7), 0);
        bounds.are("SUPPLY", new long[] {x.of(0, 0), x.of(1, 0)}, 36, 15);
    }

    private static void lineGoesOn() {
        bounds.of(III, "if its MEN there are more than the other's, LINE goes one on into the other's (it is as it was at 3, -3),");
        int[][] men = {{1, 0}, {2, 1}, {99, 98}, {1, 1}, {99, 99}, {1, 2}, {98, 99}};
        for (int[] m : men) {
            for (int side = 0; side < 2; side++) {
                HyphenWar x = new HyphenWar();
                x.men(side, 3, m[0]);
                x.men(1 - side, 3, m[1]);
                x.attack(side, 3);
                int on = side == 0 ? 1 : -1;
                bounds.is("LINE behind an attack of side " + side + ", " + m[0] + " against " + m[1], x.at(3, 0), m[0] > m[1] ? on : 0);
                bounds.are("LINE elsewhere", new long[] {x.at(2, 0), x.at(4, 0)}, 0, 0);
            }
        }
        for (int side = 0; side < 2; side++) {
            HyphenWar x = bounds.under("costs 0");
            int on = side == 0 ? 1 : -1;
            x.men(side, 0, 9);
            long[] lines = new long[5];
            for (int i = 0; i < 5; i++) {
                x.attack(side, 0);
                lines[i] = x.at(0, 0);
            }
            bounds.are("LINE, side " + side, lines, on, 2 * on, 3 * on, 3 * on, 3 * on);
            x.men(side, 0, 0);
            x.men(1 - side, 0, 9);
            long[] back = new long[7];
            for (int i = 0; i < 7; i++) {
                x.attack(1 - side, 0);
                back[i] = x.at(0, 0);
            }
            bounds.are("LINE, side " + (1 - side), back, 2 * on, on, 0, -on, -2 * on, -3 * on, -3 * on);
        }
    }

    private static void halves() {
        bounds.of(III, "the other's MEN there are less by a half of it (cut), else its own are.");
        int[][] others = {{0, 0}, {1, 1}, {2, 1}, {3, 2}, {4, 2}, {5, 3}, {97, 49}, {98, 49}};
        int[][] own = {{1, 1}, {2, 1}, {3, 2}, {4, 2}, {5, 3}, {98, 49}, {99, 50}};
        for (int side = 0; side < 2; side++) {
            for (int[] m : others) {
                HyphenWar x = new HyphenWar();
                x.men(side, 6, 99);
                x.men(1 - side, 6, m[0]);
                x.attack(side, 6);
                bounds.are("MEN behind 99 against " + m[0], new long[] {x.at(6, 1 + side), x.at(6, 2 - side)}, 99, m[1]);
            }
            for (int[] m : own) {
                HyphenWar x = new HyphenWar();
                x.men(side, 6, m[0]);
                x.men(1 - side, 6, 99);
                x.attack(side, 6);
                bounds.are("MEN behind " + m[0] + " against 99", new long[] {x.at(6, 1 + side), x.at(6, 2 - side)}, m[1], 99);
            }
        }
        // where LINE can't go on, too
        HyphenWar x = new HyphenWar();
        x.men(0, 2, 9);
        for (int i = 0; i < 3; i++) {
            x.attack(0, 2);
        }
        x.men(1, 2, 7);
        bounds.are("attack(0, 2) at 3", new long[] {x.attack(0, 2), x.at(2, 1), x.at(2, 2), x.at(2, 0)}, 0, 9, 4, 3);
    }

    private static void told() {
        bounds.of(III, "Told: 1 if LINE went on, else 0.");
        for (int side = 0; side < 2; side++) {
            HyphenWar x = new HyphenWar();
            x.men(side, 0, 2);
            x.men(1 - side, 1, 9);
            x.men(side, 1, 9);
            x.men(1 - side, 2, 9);
            x.men(side, 2, 8);
            bounds.are("attacks of side " + side, new long[] {x.attack(side, 0), x.attack(side, 0), x.attack(side, 0), x.attack(side, 0), x.attack(side, 1), x.attack(side, 2)},
                    1, 1, 1, 0, 0, 0);
        }
    }

    private static void shifts() {
        bounds.of(III, "To SHIFT n MEN of a SIDE in a COLUMN to the next one (n above 0: the COLUMN above; below 0: -n of them to the one below): as many as it has, 99 there at most.");
        for (int side = 0; side < 2; side++) {
            int s = side;
            HyphenWar x = new HyphenWar();
            x.men(s, 3, 10);
            x.men(1 - s, 3, 77);
            bounds.refused(x, "shift() of one more than it has", y -> y.shift(s, 3, 11), -3);
            bounds.refused(x, "shift() of one more than it has", y -> y.shift(s, 3, -11), -3);
            bounds.refused(x, "shift() of none that is there", y -> y.shift(s, 4, 1), -3);
            bounds.is("shift() of all, up", x.shift(s, 3, 10), 0);
            bounds.are("MEN", new long[] {x.at(2, 1 + s), x.at(3, 1 + s), x.at(4, 1 + s)}, 0, 0, 10);
            bounds.is("shift() of all, down", x.shift(s, 4, -10), 0);
            bounds.is("shift() of one, down", x.shift(s, 3, -1), 9);
            bounds.are("MEN", new long[] {x.at(2, 1 + s), x.at(3, 1 + s), x.at(4, 1 + s)}, 1, 9, 0);
            x.men(s, 4, 91);
            bounds.refused(x, "shift() that makes 100", y -> y.shift(s, 3, 9), -3);
            bounds.are("MEN", new long[] {x.at(3, 1 + s), x.at(4, 1 + s)}, 9, 91);
            bounds.is("shift() that makes 99", x.shift(s, 3, 8), 1);
            bounds.is("MEN", x.at(4, 1 + s), 99);
            bounds.is("MEN of the other", x.at(3, 2 - s), 77);
            x.men(s, 3, 0);
            bounds.are("99 down, 99 up", new long[] {x.shift(s, 4, -99), x.at(3, 1 + s), x.shift(s, 3, 99), x.at(4, 1 + s)}, 0, 99, 0, 99);
            x.men(s, 0, 3);
            x.men(s, 7, 4);
            bounds.are("at the ends", new long[] {x.shift(s, 0, 1), x.shift(s, 7, -1), x.at(1, 1 + s), x.at(6, 1 + s)}, 2, 3, 1, 1);
            bounds.refused(x, "shift() below 0, not round", y -> y.shift(s, 0, -1), -1);
            bounds.refused(x, "shift() above 7, not round", y -> y.shift(s, 7, 1), -1);
        }
    }

    private static void tempersChange() {
        bounds.of(III, "To SHOW a SIGN to a SIDE: TEMPER is changed (0 .. 99);");
        for (int side = 0; side < 2; side++) {
            HyphenWar x = new HyphenWar();
            int[] by = {-19, -2, 20, 20, 20, 20, 19, 1, -20};
            int[] due = {1, 0, 20, 40, 60, 80, 99, 99, 79};
            for (int i = 0; i < by.length; i++) {
                x.sign(6, side, 0, by[i]);
                bounds.is("show(6, " + side + ")", x.show(6, side), 1);
                bounds.are("TEMPER", new long[] {x.of(side, 1), x.of(1 - side, 1)}, due[i], 20);
            }
        }
        // cut at each sign, not at the end: 40, 60, 80, 99, 99, 79
        HyphenWar x = new HyphenWar();
        for (int s = 0; s < 6; s++) {
            x.sign(s, 0, 0, s < 5 ? 20 : -20);
            x.sign(s, 0, 1, s);
            x.sign(s, 1, 1, s < 5 ? s + 1 : -1);
        }
        bounds.are("show() of twelve", new long[] {x.show(0, 0), x.of(0, 1)}, 12, 79);
        // 40, 20, 0, 0, 20: not below 0 on the way
        for (int s = 0; s < 6; s++) {
            x.sign(s, 1, 0, s == 0 ? 20 : s == 5 ? 20 : -20);
        }
        bounds.are("show() of twelve", new long[] {x.show(0, 0), x.of(1, 1)}, 12, 20);
    }

    private static void answers() {
        bounds.of(III, "as long as that SIDE ANSWERS it, the other SIDE is shown its answer, and so on, 16 SIGNS at most with the first one.");
        HyphenWar x = new HyphenWar();
        for (int s = 0; s < 8; s++) {
            x.sign(s, 0, 0, 1);
            x.sign(s, 1, 0, 2);
        }
        bounds.are("no answer", new long[] {x.show(0, 0), x.of(0, 1), x.of(1, 1)}, 1, 21, 20);
        x.sign(0, 0, 1, 1);
        bounds.are("one answer", new long[] {x.show(0, 0), x.of(0, 1), x.of(1, 1)}, 2, 22, 22);
        bounds.are("the other side does not answer it", new long[] {x.show(0, 1), x.of(0, 1), x.of(1, 1)}, 1, 22, 24);
        x.sign(1, 1, 1, 7);
        bounds.are("two answers", new long[] {x.show(0, 0), x.of(0, 1), x.of(1, 1)}, 3, 24, 26);
        x.sign(7, 0, 1, 0);
        x.sign(0, 1, 1, 7);
        // 0 to 0, 1 to 1, 7 to 0, 0 to 1, 7 to 0, 0 to 1 .. for ever
        bounds.are("16 at most", new long[] {x.show(0, 0), x.of(0, 1), x.of(1, 1)}, 16, 32, 42);
        HyphenWar y = new HyphenWar();
        for (int s = 0; s < 8; s++) {
            y.sign(s, 0, 0, 1);
            y.sign(s, 1, 0, 2);
            y.sign(s, 0, 1, s);
            y.sign(s, 1, 1, s + 1 < 8 ? s + 1 : -1);
        }
        // (0, 0) to (7, 1) are 16; behind (0, 1) one less
        bounds.are("16 that end by themselves", new long[] {y.show(0, 0), y.of(0, 1), y.of(1, 1)}, 16, 28, 36);
        bounds.are("15 that end by themselves", new long[] {y.show(0, 1), y.of(0, 1), y.of(1, 1)}, 15, 35, 52);
        y.sign(7, 1, 1, 0);
        bounds.are("a seventeenth is not shown", new long[] {y.show(0, 0), y.of(0, 1), y.of(1, 1)}, 16, 43, 68);
    }

    private static void fed() {
        bounds.of(III, "A DAY: both are FED (999 at most; both asked ahead);");
        HyphenWar x = bounds.under("feeds 99;feeds 99-side*98 if day=9");
        for (int i = 0; i < 9; i++) {
            x.pass();
        }
        bounds.are("SUPPLY", new long[] {x.of(0, 0), x.of(1, 0)}, 941, 941);
        x.pass();
        bounds.are("SUPPLY, 99 more and 1 more", new long[] {x.of(0, 0), x.of(1, 0)}, 999, 942);
        bounds.force(x, "feeds 57");
        x.pass();
        bounds.are("SUPPLY, 999 at most, 999 just so", new long[] {x.of(0, 0), x.of(1, 0)}, 999, 999);
        // by the day and the supply that were ahead of it
        HyphenWar y = bounds.under("feeds day*10+supply-50+side");
        y.pass();
        bounds.are("SUPPLY", new long[] {y.of(0, 0), y.of(1, 0)}, 50, 51);
        y.pass();
        bounds.are("SUPPLY", new long[] {y.of(0, 0), y.of(1, 0)}, 60, 63);
    }

    private static void nextDay() {
        bounds.of(III, "it is the next DAY (at 999 it can't be).");
        HyphenWar x = new HyphenWar();
        bounds.are("pass()", new long[] {x.pass(), x.count(11), x.pass(), x.count(11)}, 1, 1, 2, 2);
        x.terms(0, 998);
        bounds.are("pass() at 998", new long[] {x.pass(), x.count(11)}, 999, 999);
        bounds.are("SUPPLY", new long[] {x.of(0, 0), x.of(1, 0)}, 59, 59);
        bounds.refused(x, "pass() at 999", y -> y.pass(), -3);
        bounds.are("DAY, SUPPLY, what can be undone", new long[] {x.count(11), x.of(0, 0), x.of(1, 0), x.count(3)}, 999, 59, 59, 1);
    }

    private static void decades() {
        bounds.of(IV, "DECADES with a SEED, n 1 .. 60, on paper:");
        // a day each, no attack: SUPPLY tells how many there were
        HyphenWar x = bounds.under("feeds 1;bars");
        x.men(0, 0, 9);
        for (int n : new int[] {1, 2, 59, 60}) {
            bounds.is("decades(7, " + n + ")", x.decades(7, n), 0);
            bounds.are("drawn()", new long[] {x.drawn(0, 3), x.drawn(1, 3)}, 50 + n, 50 + n);
        }
        for (int n : new int[] {0, -1, 61, Bounds.LEAST, Bounds.MOST}) {
            bounds.refused(x, "decades(7, " + n + ")", y -> y.decades(7, n), -1);
            bounds.is("drawn(0, 3)", x.drawn(0, 3), 110);
        }
        HyphenWar z = new HyphenWar();
        for (int c = 0; c < 8; c++) {
            z.men(0, c, 20);
            z.men(1, c, 9);
            z.sign(c, 0, 0, 5);
            z.sign(c, 1, 0, 6);
        }
        z.pass();
        String kept = Bounds.kept(z);
        bounds.is("whether decades(3, 60) push", z.decades(3, 60) > 0 ? 1 : 0, 1);
        bounds.same("all behind what was on paper", Bounds.kept(z), kept);
        bounds.is("count(3)", z.count(3), 1);
    }

    private static void seeds() {
        bounds.of(IV, "s is the SEED (0 .. 1,000,000);");
        HyphenWar x = new HyphenWar();
        for (int c = 0; c < 8; c++) {
            x.sign(c, 0, 0, c + 1);
            x.sign(c, 1, 0, 2 * c + 1);
        }
        // of 0 come 12345, 628841, 621889: sign 1 to side 1; of 1,000,000 9036, 979026, 874786: sign 2 to side 0
        bounds.is("decades(0, 1)", x.decades(0, 1), 0);
        bounds.are("drawn(), seed 0", new long[] {x.drawn(0, 4), x.drawn(1, 4)}, 20, 23);
        bounds.is("decades(1000000, 1)", x.decades(1000000, 1), 0);
        bounds.are("drawn(), seed 1,000,000", new long[] {x.drawn(0, 4), x.drawn(1, 4)}, 23, 20);
        for (int seed : new int[] {-1, 1000001, 1000003, Bounds.LEAST, Bounds.MOST}) {
            bounds.refused(x, "decades(" + seed + ", 1)", y -> y.decades(seed, 1), -1);
            bounds.are("drawn() stays", new long[] {x.drawn(0, 4), x.drawn(1, 4)}, 23, 20);
        }
    }

    private static void draws() {
        bounds.of(IV, "a DRAW of m: s becomes (s times 1103 and 12345) modulo 1,000,003, it is s modulo m.");
        // seed, draw of 2, of 8, of 3
        int[][] rows = {{0, 1, 1, 1}, {1, 0, 7, 2}, {2, 1, 2, 0}, {3, 0, 0, 1}, {4, 1, 6, 2}, {5, 0, 4, 0}, {6, 1, 2, 1}, {7, 0, 5, 2}, {8, 1, 3, 1}, {10, 1, 7, 0},
            {999999, 1, 4, 0}, {1000000, 0, 2, 1}};
        for (int[] row : rows) {
            HyphenWar x = new HyphenWar();
            for (int c = 0; c < 8; c++) {
                x.men(0, c, 9);
                x.men(1, c, 9);
                x.sign(c, 0, 0, c + 1);
                x.sign(c, 1, 0, c + 1);
            }
            x.decades(row[0], 1);
            for (int side = 0; side < 2; side++) {
                boolean its = row[1] == side;
                bounds.is("TEMPER of side " + side + ", seed " + row[0], x.drawn(side, 4), its && row[3] == 1 ? 21 + row[2] : 20);
                bounds.is("SUPPLY of side " + side + ", seed " + row[0], x.drawn(side, 3), its && row[3] == 0 ? 48 : 53);
                for (int c = 0; c < 8; c++) {
                    bounds.is("MEN of side " + side + " at " + c + ", seed " + row[0], x.drawn(c, 1 + side), its && row[3] == 0 && row[2] == c ? 5 : 9);
                }
            }
        }
    }

    private static void eachTime() {
        bounds.of(IV, "Each time (at DAY 999 it ends) DRAWS of 2, of 8, of 3: at 0 that SIDE attacks in that COLUMN, if it can, at 1 the SIGN of that number is shown to it,"
                + " at 2 nothing; then the DAY passes.");
        HyphenWar x = bounds.under("feeds 1;bars");
        int[][] days = {{999, 60, 0}, {999, 1, 0}, {998, 60, 1}, {998, 1, 1}, {997, 60, 2}, {940, 60, 59}, {939, 60, 60}, {938, 60, 60}, {0, 60, 60}};
        for (int[] d : days) {
            x.terms(0, d[0]);
            bounds.is("decades(5, " + d[1] + ") from " + d[0], x.decades(5, d[1]), 0);
            bounds.are("drawn(), " + d[2] + " days", new long[] {x.drawn(0, 3), x.drawn(1, 3)}, 50 + d[2], 50 + d[2]);
            bounds.is("count(11), on paper", x.count(11), d[0]);
        }
        // seed 5: side 0 attacks at 4, sign 0 to side 0, nothing, side 1 attacks at 0; seed 3: sign 0 to side 0
        HyphenWar z = new HyphenWar();
        z.men(0, 4, 1);
        z.sign(0, 0, 0, 9);
        int[][] last = {{997, 1, 29}, {998, 1, 20}, {999, 0, 20}};
        for (int[] d : last) {
            z.terms(0, d[0]);
            bounds.are("attack and sign from " + d[0], new long[] {z.decades(5, 60), z.drawn(4, 0), z.drawn(0, 4)}, d[1], d[1], d[2]);
        }
        bounds.are("no sign at 999", new long[] {z.decades(3, 60), z.drawn(0, 4)}, 0, 20);
        HyphenWar y = new HyphenWar();
        y.sign(0, 0, 0, 9);
        y.sign(0, 0, 1, 7);
        y.sign(7, 1, 0, -4);
        bounds.is("decades(5, 4), none can attack", y.decades(5, 4), 0);
        bounds.are("SUPPLY, TEMPER", new long[] {y.drawn(0, 3), y.drawn(1, 3), y.drawn(0, 4), y.drawn(1, 4)}, 62, 62, 29, 16);
        y.men(0, 4, 1);
        y.men(1, 0, 1);
        bounds.is("decades(5, 4), both can attack", y.decades(5, 4), 2);
        bounds.are("LINE, SUPPLY", new long[] {y.drawn(4, 0), y.drawn(0, 0), y.drawn(0, 3), y.drawn(1, 3)}, 1, -1, 57, 57);
        y.men(0, 0, 1);
        bounds.is("decades(5, 4), one wins", y.decades(5, 4), 1);
        bounds.are("LINE, SUPPLY", new long[] {y.drawn(4, 0), y.drawn(0, 0), y.drawn(0, 3), y.drawn(1, 3)}, 1, 0, 57, 57);
        bounds.force(y, "bars if column=4;costs supply+1 if side=1");
        bounds.is("decades(5, 4), barred, too dear", y.decades(5, 4), 0);
        bounds.are("SUPPLY", new long[] {y.drawn(0, 3), y.drawn(1, 3)}, 62, 62);
        // each day is fed by its own number, behind what was drawn
        bounds.force(y, "feeds day*10;costs day+1;reads day-9");
        bounds.is("decades(5, 4), by days", y.decades(5, 4), 1);
        bounds.are("SUPPLY, TEMPER", new long[] {y.drawn(0, 3), y.drawn(1, 3), y.drawn(0, 4), y.drawn(1, 4)}, 109, 106, 12, 12);
    }

    private static void rows() {
        bounds.of(IV, "A ROW: the TAPE's bytes by threes: SIDE, COLUMN, MEN; one that can't be, one within which the TAPE ends is a STROKE: nothing.");
        // side, column, men: the last that can be, and the first that can't
        int[][] threes = {{0, 0, 0}, {1, 7, 99}, {0, 7, 99}, {2, 0, 5}, {0, 8, 5}, {0, 0, 100}, {255, 0, 5}, {0, 255, 5}, {0, 0, 255}, {128, 128, 128}, {1, 0, 99}};
        for (int[] t : threes) {
            HyphenWar x = new HyphenWar();
            for (int i = 0; i < 16; i++) {
                x.men(i / 8, i % 8, 7);
            }
            boolean can = t[0] < 2 && t[1] < 8 && t[2] < 100;
            Due.tape(x, "" + (char) t[0] + (char) t[1] + (char) t[2]);
            bounds.is("row() of " + t[0] + ", " + t[1] + ", " + t[2], x.row(), can ? 1 : 0);
            bounds.is("strokes()", x.strokes(), can ? 0 : 1);
            for (int i = 0; i < 16; i++) {
                bounds.is("MEN", x.at(i % 8, 1 + i / 8), can && t[0] == i / 8 && t[1] == i % 8 ? t[2] : 7);
            }
        }
        HyphenWar x = new HyphenWar();
        Due.tape(x, "\0\1\5\0");
        bounds.are("row() that ends within, behind one byte", new long[] {x.row(), x.strokes(), x.at(1, 1)}, 1, 1, 5);
        Due.tape(x, "\0\1\6\0\1");
        bounds.are("row() that ends within, behind two bytes", new long[] {x.row(), x.strokes(), x.at(1, 1)}, 1, 1, 6);
        Due.tape(x, "\0\1\7\0\1\10");
        bounds.are("row() of two, the later one", new long[] {x.row(), x.strokes(), x.at(1, 1)}, 2, 0, 8);
        Due.tape(x, "\1");
        bounds.are("row() of one byte", new long[] {x.row(), x.strokes()}, 0, 1);
        // what comes behind a stroke goes on by threes
        Due.tape(x, "\2\0\0\1\3\4\0\11\0\1\4\5");
        bounds.are("row() with two strokes", new long[] {x.row(), x.strokes(), x.at(3, 2), x.at(4, 2)}, 2, 2, 4, 5);
        Due.tape(x, "\1\6\3".repeat(133) + "\1");
        bounds.are("row() of 400 bytes", new long[] {x.row(), x.strokes(), x.at(6, 2)}, 133, 1, 3);
    }

    /** Something of all that images keep. */
    private static HyphenWar full() {
        HyphenWar x = new HyphenWar();
        x.men(0, 1, 20);
        x.men(1, 1, 8);
        x.sign(3, 0, 0, 6);
        x.sign(3, 0, 1, 4);
        x.word(2, 0, 0, 4);
        x.word(2, 1, 0, 5);
        x.word(2, 0, 1, 8);
        x.hear(2, 1);
        x.tell(0, 6);
        bounds.force(x, "costs 8;feeds 9;bars if column=6");
        x.attack(0, 1);
        x.show(3, 0);
        x.pass();
        return x;
    }

    private static void imagesKeep() {
        bounds.of(IV, "IMAGES 0, 1 keep all but the TAPE, FAULT, STROKES, where ORDERS stopped, what can be undone (nothing, behind back()), the latest DECADES;");
        for (int k = 0; k < 2; k++) {
            HyphenWar x = full();
            x.decades(5, 1);
            x.feed(1, 2, 3, 4, 5);
            x.image(k);
            bounds.are("TAPE, what can be undone, behind image()", new long[] {x.count(4), x.count(3)}, 20, 3);
            bounds.is("undo() behind image()", x.undo(), 3);
            x.pass();
            String kept = Bounds.kept(x);
            Due.tape(x, "\2");
            x.row();
            Due.law(x, "bars x");
            Due.orders(x, "show 0 to 0;pass;attack 0 at 7");
            Due.tape(x, "bars ??");
            x.law();
            x.men(0, 4, 9);
            bounds.is("decades(5, 1)", x.decades(5, 1), 1);
            x.pass();
            x.pass();
            x.feed(0, 0, 0, 0, 0);
            x.feed(0, 0, 0, 0, 0);
            bounds.is("back(" + k + ")", x.back(k), 0);
            bounds.same("what is kept", Bounds.kept(x), kept);
            bounds.are("TAPE, FAULT, STROKES, where ORDERS stopped, DECADES", new long[] {x.count(4), x.fault(), x.strokes(), x.stopped(), x.drawn(4, 0), x.drawn(4, 1)},
                    40, 5, 1, 2, 1, 9);
            bounds.is("count(3)", x.count(3), 0);
            bounds.refused(x, "undo() behind back()", y -> y.undo(), -3);
        }
        HyphenWar x = new HyphenWar();
        for (int k : new int[] {-1, 2, Bounds.LEAST, Bounds.MOST}) {
            bounds.refused(x, "image(" + k + ")", y -> y.image(k), -1);
            bounds.refused(x, "back(" + k + ")", y -> y.back(k), -1);
        }
    }

    private static void backToAll() {
        bounds.of(IV, "BACK to one all that it keeps is as it was then (IMAGES stay).");
        Bounds.Call[] changes = {x -> x.men(1, 7, 3), x -> x.sign(3, 0, 0, -6), x -> x.sign(3, 1, 1, 0), x -> x.word(2, 0, 0, 0), x -> x.word(2, 1, 1, 2), x -> x.terms(0, 77),
            x -> x.terms(1, 5), x -> x.terms(2, 1), x -> x.hear(2, 0), x -> x.tell(1, 20), x -> x.forget(), x -> x.forget() + x.hear(2, 0), x -> x.forget() + x.hear(1, 1),
            x -> x.forget() + x.tell(1, 6), x -> x.forget() + x.tell(0, 0), x -> Due.law(x, "costs 33"), x -> x.force(-1), x -> x.attack(0, 1),
            x -> x.shift(0, 1, 1), x -> x.show(3, 0), x -> x.pass(), x -> x.undo(), x -> Due.orders(x, "pass;show 3 to 0")};
        for (int i = 0; i < changes.length; i++) {
            HyphenWar x = full();
            String kept = Bounds.kept(x);
            x.image(i % 2);
            changes[i].on(x);
            String changed = Bounds.kept(x);
            bounds.is("whether change " + i + " can be seen", changed.equals(kept) ? 0 : 1, 1);
            x.image(1 - i % 2);
            bounds.is("back()", x.back(i % 2), 0);
            bounds.same("all behind change " + i, Bounds.kept(x), kept);
            bounds.is("back() to the other", x.back(1 - i % 2), 0);
            bounds.is("back() again", x.back(i % 2), 0);
            bounds.is("count(10)", x.count(10), 0);
            x.back(1 - i % 2);
            bounds.same("change " + i, Bounds.kept(x), changed);
        }
        // a new image in place of the old one; laws of the same number
        HyphenWar x = new HyphenWar();
        x.image(0);
        bounds.force(x, "costs 11");
        x.image(1);
        x.back(0);
        bounds.are("no law", new long[] {x.count(2), x.count(10), x.at(0, 3), x.force(0)}, 0, -1, 5, -2);
        bounds.force(x, "costs 12");
        bounds.is("the other law 0", x.at(0, 3), 12);
        x.back(1);
        bounds.is("the first law 0", x.at(0, 3), 11);
        x.men(0, 0, 5);
        x.image(0);
        x.men(0, 0, 6);
        x.back(0);
        bounds.are("an image in place of another", new long[] {x.at(0, 1), x.at(0, 3)}, 5, 11);
    }
}

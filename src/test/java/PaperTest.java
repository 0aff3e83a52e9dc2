/** Promises 31 to 39: what is found out on paper. */
public final class PaperTest {
    private static final Due DUE = new Due();

    public static void main(String[] args) {
        pushed();
        level();
        posts();
        ways();
        holds();
        which();
        compare();
        decades();
        decadesEnd();
        DUE.end();
    }

    private static void pushes(HyphenWar x, int side, int columns, int costs, int set) {
        DUE.is(31, "pushed(" + side + ", 0)", x.pushed(side, 0), columns);
        DUE.is(31, "pushed(" + side + ", 1)", x.pushed(side, 1), costs);
        DUE.is(31, "pushed(" + side + ", 2)", x.pushed(side, 2), set);
    }

    private static void pushed() {
        HyphenWar x = new HyphenWar();
        pushes(x, 0, 0, 0, 0);
        for (int c = 0; c < 8; c++) {
            x.men(0, c, 10 + c);
            x.men(1, c, c == 4 ? 14 : c == 5 ? 40 : 3);
        }
        pushes(x, 0, 6, 30, 0xcf);
        pushes(x, 1, 1, 5, 32);
        // 20, 18, 16, 14, 12, 10, 8, 6 for 50 together: 6, 8, 14, 16 are dearer than 6, 8, 14 with column 5 not to be had
        DUE.inForce(x, "costs 20 - column * 2");
        pushes(x, 0, 4, 44, 0xcc);
        DUE.inForce(x, "costs 25");
        pushes(x, 0, 2, 50, 3);
        DUE.inForce(x, "costs 50 if column > 1;costs 26 if column < 2");
        pushes(x, 0, 1, 26, 1);
        DUE.inForce(x, "costs 51");
        pushes(x, 0, 0, 0, 0);
        DUE.inForce(x, "costs 0;bars if column = 0");
        pushes(x, 0, 5, 0, 0xce);
        x.attack(0, 1);
        x.attack(0, 1);
        x.attack(0, 1);
        pushes(x, 0, 4, 0, 0xcc);
        x.men(0, 1, 0);
        pushes(x, 1, 2, 0, 34);
        x.attack(1, 5);
        x.attack(1, 5);
        x.attack(1, 5);
        pushes(x, 1, 1, 0, 2);
        int[][] none = {{-1, 0}, {2, 0}, {0, -1}, {0, 3}};
        for (int[] n : none) {
            DUE.is(31, "pushed(" + n[0] + ", " + n[1] + ")", x.pushed(n[0], n[1]), -1);
        }
    }

    private static void level() {
        HyphenWar x = new HyphenWar();
        DUE.is(32, "level(0)", x.level(0), 0);
        x.men(0, 7, 1);
        DUE.is(32, "level(0): the one left over goes to 0", x.level(0), 7);
        x.men(0, 7, 0);
        x.men(0, 0, 1);
        DUE.is(32, "level(0)", x.level(0), 0);
        x.men(1, 7, 80);
        DUE.is(32, "level(1)", x.level(1), 280);
        x.men(1, 0, 40);
        // 15 each: 25, 10, 5, 20, 35, 50, 65
        DUE.is(32, "level(1)", x.level(1), 210);
        for (int c = 0; c < 8; c++) {
            x.men(1, c, 99);
        }
        DUE.is(32, "level(1)", x.level(1), 0);
        x.men(1, 0, 98);
        DUE.is(32, "level(1)", x.level(1), 7);
        DUE.is(32, "level(-1)", x.level(-1), -1);
        DUE.is(32, "level(2)", x.level(2), -1);
    }

    private static void posts() {
        HyphenWar x = new HyphenWar();
        // columns 0, 3, 6; 0, 5; 0, 4; then one that sees both ends
        int[] sets = {255, 73, 33, 17, 8, 4, 2, 1};
        for (int reach = 0; reach < 8; reach++) {
            DUE.is(33, "posts(" + reach + ", 0)", x.posts(reach, 0), Integer.bitCount(sets[reach]));
            DUE.is(33, "posts(" + reach + ", 1)", x.posts(reach, 1), sets[reach]);
        }
        int[][] none = {{-1, 0}, {8, 0}, {0, -1}, {0, 2}};
        for (int[] n : none) {
            DUE.is(33, "posts(" + n[0] + ", " + n[1] + ")", x.posts(n[0], n[1]), -1);
        }
    }

    private static void goes(HyphenWar x, int[] way, int foes, int up, int columns) {
        String call = "way(" + way[0] + ", " + way[1] + ", " + way[2] + ", ";
        DUE.is(34, call + "0)", x.way(way[0], way[1], way[2], 0), foes);
        DUE.is(34, call + "1)", x.way(way[0], way[1], way[2], 1), up);
        DUE.is(34, call + "2)", x.way(way[0], way[1], way[2], 2), columns);
    }

    private static void ways() {
        HyphenWar x = new HyphenWar();
        goes(x, new int[] {0, 5, 2}, 0, 1, 5);
        for (int c = 0; c < 8; c++) {
            x.men(0, c, 1);
            x.men(1, c, 1 << c % 6);
        }
        // of side 1: 1 2 4 8 16 32 1 2
        goes(x, new int[] {0, 0, 3}, 14, 1, 3);
        goes(x, new int[] {0, 0, 5}, 35, 0, 3);
        goes(x, new int[] {0, 6, 1}, 5, 1, 3);
        goes(x, new int[] {0, 1, 6}, 4, 0, 3);
        goes(x, new int[] {0, 7, 0}, 1, 1, 1);
        goes(x, new int[] {0, 0, 7}, 2, 0, 1);
        goes(x, new int[] {1, 0, 4}, 4, 1, 4);
        goes(x, new int[] {1, 0, 5}, 3, 0, 3);
        int[][] none = {{-1, 0, 1, 0}, {2, 0, 1, 0}, {0, -1, 1, 0}, {0, 8, 1, 0}, {0, 1, -1, 0}, {0, 1, 8, 0}, {0, 1, 1, 0}, {0, 0, 1, -1}, {0, 0, 1, 3}};
        for (int[] n : none) {
            DUE.is(34, "way that is not there", x.way(n[0], n[1], n[2], n[3]), -1);
        }
    }

    private static void holds() {
        HyphenWar x = new HyphenWar();
        DUE.is(35, "holds(0)", x.holds(0), 1000000000000L);
        DUE.is(35, "holds(2)", x.holds(2), 409600000000L);
        DUE.is(35, "holds(6)", x.holds(6), 68719476736L);
        DUE.is(35, "holds(7)", x.holds(7), 43980465110L);
        DUE.is(35, "holds(8)", x.holds(8), 28147497670L);
        x.sign(0, 0, 0, 13);
        x.sign(0, 1, 0, -11);
        x.show(0, 0);
        x.show(0, 1);
        DUE.is(35, "holds(1)", x.holds(1), 609700000000L);
        DUE.is(35, "holds(10)", x.holds(10), 7098424216L);
        DUE.is(35, "holds(60)", x.holds(60), 0);
        x.sign(0, 0, 0, -20);
        x.show(0, 0);
        x.show(0, 0);
        x.show(0, 1);
        DUE.is(35, "holds(60), tempers 0", x.holds(60), 1000000000000L);
        DUE.is(35, "holds(-1)", x.holds(-1), -1);
        DUE.is(35, "holds(61)", x.holds(61), -1);
    }

    private static void which() {
        HyphenWar x = new HyphenWar();
        for (int s = 0; s < 8; s++) {
            x.sign(s, 0, 0, s % 4);
            x.sign(s, 1, 0, s / 4);
            x.sign(s, 0, 1, 7 - s);
        }
        DUE.is(36, "which(), nothing told", x.which(), 255);
        x.tell(0, 1);
        DUE.is(36, "which()", x.which(), 0x22);
        x.tell(1, 1);
        DUE.is(36, "which()", x.which(), 0x20);
        x.tell(0, 2);
        DUE.is(36, "which(), none", x.which(), 0);
        x.forget();
        x.tell(1, 0);
        DUE.is(36, "which()", x.which(), 0x0f);
        DUE.inForce(x, "reads 90 if sign = 6;reads 0 - 90 if sign = 7");
        x.forget();
        x.tell(1, 20);
        DUE.is(36, "which(), by law", x.which(), 0x40);
        x.forget();
        x.tell(0, -20);
        x.show(7, 0);
        DUE.is(36, "which(), nothing cut at 0", x.which(), 0x80);
        DUE.is(36, "of(0, 1)", x.of(0, 1), 0);
    }

    private static void compare() {
        HyphenWar x = new HyphenWar();
        DUE.is(37, "compare(-1)", x.compare(-1), 80);
        DUE.is(37, "compare(0)", x.compare(0), -1);
        Due.law(x, "costs column if side = 0;costs 7 if side = 1");
        Due.law(x, "costs men + 10 * foes");
        DUE.is(37, "compare(0)", x.compare(0), 84);
        DUE.is(37, "compare(1)", x.compare(1), 0);
        x.men(0, 0, 3);
        x.men(1, 0, 1);
        x.men(1, 5, 4);
        // 13 and 31; 40 and 4
        DUE.is(37, "compare(1)", x.compare(1), 88);
        x.force(1);
        DUE.is(37, "compare(-1), one in force", x.compare(-1), 80);
        DUE.is(37, "compare(0), the other in force", x.compare(0), 84);
        DUE.is(37, "count(10)", x.count(10), 1);
        DUE.is(37, "compare(2)", x.compare(2), -1);
        DUE.is(37, "compare(-2)", x.compare(-2), -1);
        DUE.is(37, "status()", x.status(), 0);
    }

    private static void decades() {
        HyphenWar x = new HyphenWar();
        x.men(0, 4, 9);
        x.men(1, 4, 4);
        x.men(0, 0, 5);
        x.men(1, 0, 5);
        x.sign(0, 0, 0, 6);
        x.sign(0, 0, 1, 3);
        x.sign(3, 1, 0, -2);
        x.show(1, 0);
        DUE.is(39, "drawn(0, 3) ahead of any", x.drawn(0, 3), -1000);
        // side 0 attacks at 4; sign 0 to side 0; nothing; side 1 attacks at 0
        DUE.is(38, "decades(5, 4)", x.decades(5, 4), 1);
        int[][] due = {{0, 5, 3}, {0, 0, 0}, {0, 0, 0}, {0, 0, 0}, {1, 9, 2}, {0, 0, 0}, {0, 0, 0}, {0, 0, 0}};
        for (int c = 0; c < 8; c++) {
            for (int what = 0; what < 3; what++) {
                DUE.is(39, "drawn(" + c + ", " + what + ")", x.drawn(c, what), due[c][what]);
            }
        }
        DUE.is(39, "drawn(0, 3)", x.drawn(0, 3), 57);
        DUE.is(39, "drawn(1, 3)", x.drawn(1, 3), 57);
        DUE.is(39, "drawn(0, 4)", x.drawn(0, 4), 26);
        DUE.is(39, "drawn(1, 4)", x.drawn(1, 4), 18);
        DUE.is(38, "at(4, 0), on paper", x.at(4, 0), 0);
        DUE.is(38, "of(0, 0), on paper", x.of(0, 0), 50);
        DUE.is(38, "of(0, 1), on paper", x.of(0, 1), 20);
        DUE.is(38, "count(11), on paper", x.count(11), 0);
        DUE.is(38, "count(3)", x.count(3), 1);
        int[][] wrong = {{-1, 1}, {1000001, 1}, {0, 0}, {0, 61}};
        for (int[] w : wrong) {
            DUE.is(38, "decades(" + w[0] + ", " + w[1] + ")", x.decades(w[0], w[1]), -1);
            DUE.is(38, "status()", x.status(), -1);
        }
        DUE.is(39, "drawn(4, 0), the latest that was not refused", x.drawn(4, 0), 1);
        int[][] nothing = {{-1, 0}, {8, 0}, {8, 1}, {-1, 2}, {2, 3}, {-1, 3}, {2, 4}, {0, -1}, {0, 5}};
        for (int[] n : nothing) {
            DUE.is(39, "drawn(" + n[0] + ", " + n[1] + ")", x.drawn(n[0], n[1]), -1000);
        }
        // seed 1,000,000: sign 2 to side 0, 2, 2, sign 1 to side 0, 2, sign 1 to side 1, side 0 attacks at 4
        x.sign(2, 0, 0, 1);
        x.sign(1, 0, 0, 2);
        x.sign(1, 1, 0, 4);
        DUE.is(38, "decades(1000000, 7)", x.decades(1000000, 7), 1);
        DUE.is(39, "drawn(0, 4)", x.drawn(0, 4), 23);
        DUE.is(39, "drawn(1, 4)", x.drawn(1, 4), 24);
        DUE.is(39, "drawn(0, 3)", x.drawn(0, 3), 66);
    }

    private static void decadesEnd() {
        HyphenWar x = new HyphenWar();
        x.men(0, 4, 9);
        x.terms(0, 997);
        DUE.is(38, "decades(5, 60), two days left", x.decades(5, 60), 1);
        DUE.is(39, "drawn(1, 3)", x.drawn(1, 3), 56);
        x.terms(0, 999);
        DUE.is(38, "decades(5, 60), no day left", x.decades(5, 60), 0);
        DUE.is(39, "drawn(4, 0)", x.drawn(4, 0), 0);
        x.terms(0, 0);
        DUE.inForce(x, "feeds 0 if day > 1;bars if column = 4");
        DUE.is(38, "decades(5, 60), by law", x.decades(5, 60), 0);
        DUE.is(39, "drawn(1, 3), fed on two days", x.drawn(1, 3), 56);
        DUE.is(38, "decades(0, 1)", x.decades(0, 1), 0);
        DUE.is(39, "drawn(1, 3)", x.drawn(1, 3), 53);
    }
}

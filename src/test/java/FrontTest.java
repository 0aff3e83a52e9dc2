/** Promises 1 to 4 and 18 to 22: the front and the acts on it. */
public final class FrontTest {
    private static final Due DUE = new Due();

    public static void main(String[] args) {
        newObject();
        menAndAt();
        ofASide();
        attacks();
        attacksByLaw();
        shifts();
        shows();
        days();
        undoes();
        undoIsCleared();
        DUE.end();
    }

    private static void newObject() {
        HyphenWar x = new HyphenWar();
        for (int c = 0; c < 8; c++) {
            for (int what = 0; what < 7; what++) {
                DUE.is(1, "at(" + c + ", " + what + ")", x.at(c, what), what == 3 || what == 4 ? 5 : 0);
            }
            for (int side = 0; side < 2; side++) {
                DUE.is(1, "reads(" + c + ", " + side + ", 0)", x.reads(c, side, 0), 0);
                DUE.is(1, "reads(" + c + ", " + side + ", 1)", x.reads(c, side, 1), -1);
            }
        }
        int[] ofSide = {50, 20, 3, 0};
        for (int what = 0; what < 4; what++) {
            DUE.is(1, "of(0, " + what + ")", x.of(0, what), ofSide[what]);
            DUE.is(1, "of(1, " + what + ")", x.of(1, what), ofSide[what]);
        }
        int[] counts = {0, 0, 0, 0, 0, 0, 0, 0, 0, 0, -1, 0, 3, 0};
        for (int what = 0; what < 14; what++) {
            DUE.is(1, "count(" + what + ")", x.count(what), counts[what]);
        }
        DUE.is(1, "status()", x.status(), 0);
        DUE.is(1, "fault()", x.fault(), -1);
        DUE.is(1, "stopped()", x.stopped(), -1);
        DUE.is(1, "strokes()", x.strokes(), 0);
        DUE.is(1, "probably()", x.probably(), 500000);
        DUE.is(1, "drawn(0, 0)", x.drawn(0, 0), -1000);
        DUE.is(1, "back(0)", x.back(0), -2);
        DUE.is(1, "undo()", x.undo(), -3);
        DUE.is(1, "NONE", HyphenWar.NONE, -1);
        DUE.is(1, "NOTHING", HyphenWar.NOTHING, -1000);
        HyphenWar other = new HyphenWar();
        other.men(0, 0, 9);
        DUE.is(1, "at(0, 1) of another object", x.at(0, 1), 0);
    }

    private static void menAndAt() {
        HyphenWar x = new HyphenWar();
        DUE.is(2, "men(0, 0, 99)", x.men(0, 0, 99), 0);
        DUE.is(2, "men(0, 0, 7)", x.men(0, 0, 7), 99);
        DUE.is(2, "men(1, 7, 3)", x.men(1, 7, 3), 0);
        int[][] wrong = {{-1, 0, 0}, {2, 0, 0}, {0, -1, 0}, {0, 8, 0}, {0, 0, -1}, {0, 0, 100}, {Integer.MIN_VALUE, Integer.MAX_VALUE, 5}};
        for (int[] w : wrong) {
            DUE.is(2, "men of a wrong number", x.men(w[0], w[1], w[2]), -1);
            DUE.is(2, "status()", x.status(), -1);
        }
        DUE.is(2, "men(0, 0, 0)", x.men(0, 0, 0), 7);
        DUE.is(2, "status()", x.status(), 0);
        x.men(0, 2, 4);
        x.men(1, 2, 6);
        DUE.is(3, "at(2, 1)", x.at(2, 1), 4);
        DUE.is(3, "at(2, 2)", x.at(2, 2), 6);
        DUE.is(3, "at(7, 2)", x.at(7, 2), 3);
        x.attack(1, 2);
        DUE.is(3, "at(2, 0)", x.at(2, 0), -1);
        DUE.inForce(x, "costs 7 if side = 0;costs 9 if side = 1 and column = 2;bars if side = 1 and column = 3;bars if side = 0 and column = 4");
        DUE.is(3, "at(2, 3)", x.at(2, 3), 7);
        DUE.is(3, "at(2, 4)", x.at(2, 4), 9);
        DUE.is(3, "at(3, 4)", x.at(3, 4), 5);
        DUE.is(3, "at(3, 5)", x.at(3, 5), 0);
        DUE.is(3, "at(3, 6)", x.at(3, 6), 1);
        DUE.is(3, "at(4, 5)", x.at(4, 5), 1);
        DUE.is(3, "at(4, 6)", x.at(4, 6), 0);
        int[][] nothing = {{-1, 0}, {8, 0}, {0, -1}, {0, 7}, {Integer.MAX_VALUE, 3}, {3, Integer.MIN_VALUE}};
        for (int[] n : nothing) {
            DUE.is(3, "at(" + n[0] + ", " + n[1] + ")", x.at(n[0], n[1]), -1000);
        }
    }

    private static void ofASide() {
        HyphenWar x = new HyphenWar();
        x.men(0, 0, 9);
        x.men(0, 7, 99);
        x.men(1, 3, 5);
        x.sign(0, 1, 0, 11);
        x.attack(0, 0);
        x.show(0, 1);
        DUE.inForce(x, "feeds men if side = 0;feeds temper * 2 if side = 1");
        int[][] due = {{45, 20, 99, 108}, {50, 31, 62, 5}};
        for (int side = 0; side < 2; side++) {
            for (int what = 0; what < 4; what++) {
                DUE.is(4, "of(" + side + ", " + what + ")", x.of(side, what), due[side][what]);
            }
        }
        int[][] none = {{-1, 0}, {2, 0}, {0, -1}, {0, 4}, {Integer.MIN_VALUE, 0}};
        for (int[] n : none) {
            DUE.is(4, "of(" + n[0] + ", " + n[1] + ")", x.of(n[0], n[1]), -1);
        }
    }

    private static void attacks() {
        HyphenWar x = new HyphenWar();
        x.men(0, 0, 10);
        x.men(1, 0, 7);
        int[] foes = {4, 2, 1, 1};
        for (int i = 0; i < 4; i++) {
            DUE.is(18, "attack(0, 0)", x.attack(0, 0), i < 3 ? 1 : 0);
            DUE.is(18, "LINE", x.at(0, 0), Math.min(i + 1, 3));
            DUE.is(18, "foes", x.at(0, 2), foes[i]);
            DUE.is(18, "own", x.at(0, 1), 10);
            DUE.is(18, "SUPPLY", x.of(0, 0), 45 - 5 * i);
        }
        DUE.is(18, "SUPPLY of the other", x.of(1, 0), 50);
        x.men(1, 0, 20);
        DUE.is(18, "attack(1, 0)", x.attack(1, 0), 1);
        DUE.is(18, "LINE", x.at(0, 0), 2);
        DUE.is(18, "men", x.at(0, 1), 5);
        x.men(0, 5, 6);
        x.men(1, 5, 6);
        DUE.is(18, "attack of as many", x.attack(1, 5), 0);
        DUE.is(18, "LINE", x.at(5, 0), 0);
        DUE.is(18, "own", x.at(5, 2), 3);
        DUE.is(18, "others", x.at(5, 1), 6);
        for (int i = 0; i < 4; i++) {
            x.men(0, 6, 0);
            x.men(1, 6, 1);
            DUE.is(18, "attack(1, 6)", x.attack(1, 6), i < 3 ? 1 : 0);
        }
        DUE.is(18, "LINE", x.at(6, 0), -3);
        DUE.is(18, "attack without men", x.attack(0, 6), -3);
        int[][] wrong = {{-1, 0}, {2, 0}, {0, -1}, {0, 8}, {1, Integer.MAX_VALUE}};
        for (int[] w : wrong) {
            DUE.is(18, "attack(" + w[0] + ", " + w[1] + ")", x.attack(w[0], w[1]), -1);
        }
        x.men(1, 1, 50);
        DUE.is(18, "SUPPLY", x.of(1, 0), 20);
        for (int i = 0; i < 4; i++) {
            x.attack(1, 1);
        }
        DUE.is(18, "SUPPLY", x.of(1, 0), 0);
        DUE.is(18, "attack without supply", x.attack(1, 1), -3);
        DUE.is(18, "LINE", x.at(1, 0), -3);
    }

    private static void attacksByLaw() {
        HyphenWar x = new HyphenWar();
        x.men(0, 0, 10);
        x.men(0, 1, 10);
        DUE.inForce(x, "costs supply if column = 0;costs supply + 1 if column = 1;bars if column = 2");
        DUE.is(18, "attack that costs too much", x.attack(0, 1), -3);
        DUE.is(18, "attack that costs all", x.attack(0, 0), 1);
        DUE.is(18, "SUPPLY", x.of(0, 0), 0);
        DUE.is(18, "attack that costs 0", x.attack(0, 0), 1);
        x.men(0, 2, 10);
        DUE.is(18, "attack that is barred", x.attack(0, 2), -3);
        x.force(-1);
        DUE.is(18, "attack for 5 of 0", x.attack(0, 2), -3);
    }

    private static void shifts() {
        HyphenWar x = new HyphenWar();
        x.men(0, 3, 50);
        x.men(0, 4, 60);
        x.men(1, 3, 9);
        DUE.is(19, "shift(0, 3, 39)", x.shift(0, 3, 39), 11);
        DUE.is(19, "at(4, 1)", x.at(4, 1), 99);
        DUE.is(19, "shift(0, 3, 1)", x.shift(0, 3, 1), -3);
        DUE.is(19, "shift(0, 3, -11)", x.shift(0, 3, -11), 0);
        DUE.is(19, "at(2, 1)", x.at(2, 1), 11);
        DUE.is(19, "at(3, 2)", x.at(3, 2), 9);
        DUE.is(19, "shift(0, 3, -1)", x.shift(0, 3, -1), -3);
        DUE.is(19, "shift(0, 4, 99)", x.shift(0, 4, 99), 0);
        DUE.is(19, "shift(0, 5, -99)", x.shift(0, 5, -99), 0);
        int[][] wrong = {{-1, 0, 1}, {2, 0, 1}, {0, -1, 1}, {0, 8, -1}, {0, 4, 0}, {0, 4, 100}, {0, 4, -100}, {0, 0, -1}, {0, 7, 1},
            {0, Integer.MAX_VALUE, 1}, {0, Integer.MIN_VALUE, -1}, {0, 4, Integer.MIN_VALUE}};
        for (int[] w : wrong) {
            DUE.is(19, "shift(" + w[0] + ", " + w[1] + ", " + w[2] + ")", x.shift(w[0], w[1], w[2]), -1);
        }
        x.men(1, 7, 5);
        DUE.is(19, "shift(1, 7, -2)", x.shift(1, 7, -2), 3);
        DUE.is(19, "at(6, 2)", x.at(6, 2), 2);
        DUE.is(19, "of(0, 3)", x.of(0, 3), 110);
    }

    private static void shows() {
        HyphenWar x = new HyphenWar();
        x.sign(0, 0, 0, 20);
        x.sign(0, 1, 0, -20);
        DUE.is(20, "show(0, 0)", x.show(0, 0), 1);
        DUE.is(20, "of(0, 1)", x.of(0, 1), 40);
        DUE.is(20, "of(1, 1)", x.of(1, 1), 20);
        x.show(0, 1);
        x.show(0, 1);
        DUE.is(20, "TEMPER not below 0", x.of(1, 1), 0);
        for (int i = 0; i < 4; i++) {
            x.show(0, 0);
        }
        DUE.is(20, "TEMPER not above 99", x.of(0, 1), 99);
        x.sign(1, 0, 0, -3);
        x.sign(1, 0, 1, 2);
        x.sign(2, 1, 0, 7);
        x.sign(2, 1, 1, 3);
        x.sign(2, 0, 1, 1);
        DUE.is(20, "show(1, 0)", x.show(1, 0), 3);
        DUE.is(20, "of(0, 1)", x.of(0, 1), 96);
        DUE.is(20, "of(1, 1)", x.of(1, 1), 7);
        x.sign(4, 0, 0, -2);
        x.sign(4, 1, 0, 1);
        x.sign(4, 0, 1, 4);
        x.sign(4, 1, 1, 4);
        DUE.is(20, "show(4, 1)", x.show(4, 1), 16);
        DUE.is(20, "of(0, 1)", x.of(0, 1), 80);
        DUE.is(20, "of(1, 1)", x.of(1, 1), 15);
        int[][] wrong = {{-1, 0}, {8, 0}, {0, -1}, {0, 2}};
        for (int[] w : wrong) {
            DUE.is(20, "show(" + w[0] + ", " + w[1] + ")", x.show(w[0], w[1]), -1);
        }
        // each sign is read by the tempers that the ones ahead of it left
        DUE.inForce(x, "reads 10 - temper % 10 if side = 0");
        x.sign(5, 0, 1, 6);
        x.sign(6, 1, 1, 7);
        DUE.is(20, "show(5, 0)", x.show(5, 0), 3);
        DUE.is(20, "of(0, 1)", x.of(0, 1), 99);
    }

    private static void days() {
        HyphenWar x = new HyphenWar();
        DUE.is(21, "pass()", x.pass(), 1);
        DUE.is(21, "of(0, 0)", x.of(0, 0), 53);
        DUE.is(21, "of(1, 0)", x.of(1, 0), 53);
        DUE.inForce(x, "feeds supply - 50 + side;feeds 99 if day = 2;feeds 200 if day = 3");
        DUE.is(21, "pass()", x.pass(), 2);
        DUE.is(21, "of(0, 0)", x.of(0, 0), 56);
        DUE.is(21, "of(1, 0)", x.of(1, 0), 57);
        DUE.is(21, "pass()", x.pass(), 3);
        DUE.is(21, "of(0, 0)", x.of(0, 0), 155);
        DUE.is(21, "pass()", x.pass(), 4);
        DUE.is(21, "of(1, 0)", x.of(1, 0), 255);
        for (int i = 0; i < 8; i++) {
            x.pass();
        }
        DUE.is(21, "SUPPLY not above 999", x.of(0, 0), 999);
        x.terms(0, 998);
        DUE.is(21, "pass()", x.pass(), 999);
        DUE.is(21, "pass() at 999", x.pass(), -3);
        DUE.is(21, "count(11)", x.count(11), 999);
        DUE.is(21, "undo()", x.undo(), 3);
        DUE.is(21, "count(11)", x.count(11), 998);
    }

    private static void undoes() {
        HyphenWar x = new HyphenWar();
        x.men(0, 0, 9);
        x.men(1, 0, 4);
        x.sign(0, 0, 0, 5);
        x.attack(0, 0);
        x.shift(0, 0, 2);
        x.show(0, 0);
        x.pass();
        DUE.is(22, "count(3)", x.count(3), 4);
        DUE.is(22, "undo()", x.undo(), 3);
        DUE.is(22, "count(11)", x.count(11), 0);
        DUE.is(22, "of(0, 0)", x.of(0, 0), 45);
        DUE.is(22, "undo()", x.undo(), 2);
        DUE.is(22, "of(0, 1)", x.of(0, 1), 20);
        DUE.is(22, "undo()", x.undo(), 1);
        DUE.is(22, "at(0, 1)", x.at(0, 1), 9);
        DUE.is(22, "at(1, 1)", x.at(1, 1), 0);
        DUE.is(22, "at(0, 2)", x.at(0, 2), 2);
        DUE.is(22, "undo()", x.undo(), 0);
        DUE.is(22, "at(0, 0)", x.at(0, 0), 0);
        DUE.is(22, "at(0, 2)", x.at(0, 2), 4);
        DUE.is(22, "of(0, 0)", x.of(0, 0), 50);
        DUE.is(22, "undo()", x.undo(), -3);
        for (int i = 0; i < 20; i++) {
            x.pass();
        }
        DUE.is(22, "count(3)", x.count(3), 16);
        for (int i = 0; i < 16; i++) {
            DUE.is(22, "undo()", x.undo(), 3);
        }
        DUE.is(22, "undo() of the 17th", x.undo(), -3);
        DUE.is(22, "count(11)", x.count(11), 4);
        DUE.is(22, "orders()", Due.orders(x, "pass times 3;show 0 to 0"), 4);
        DUE.is(22, "count(3)", x.count(3), 4);
        DUE.is(22, "undo()", x.undo(), 2);
        DUE.is(22, "undo()", x.undo(), 3);
        DUE.is(22, "count(11)", x.count(11), 6);
        // more than are kept, and then not at all: the ones ahead are there still
        DUE.is(22, "orders()", Due.orders(x, "show 0 to 0 times 20;attack 0 at 7"), -3);
        DUE.is(22, "count(3)", x.count(3), 2);
        DUE.is(22, "undo()", x.undo(), 3);
        DUE.is(22, "count(11)", x.count(11), 5);
        DUE.is(22, "undo()", x.undo(), 3);
        DUE.is(22, "undo()", x.undo(), -3);
        x.men(1, 5, 3);
        x.men(0, 5, 3);
        DUE.is(22, "attack(1, 5)", x.attack(1, 5), 0);
        DUE.is(22, "shift(0, 5, 3)", x.shift(0, 5, 3), 0);
        DUE.is(22, "undo() of what told 0", x.undo(), 1);
        DUE.is(22, "at(5, 1)", x.at(5, 1), 3);
        DUE.is(22, "undo() of what told 0", x.undo(), 0);
        DUE.is(22, "at(5, 2)", x.at(5, 2), 3);
        DUE.is(22, "of(1, 0)", x.of(1, 0), 62);
    }

    private static void undoIsCleared() {
        HyphenWar x = new HyphenWar();
        String[] by = {"men", "sign", "terms", "row"};
        for (int i = 0; i < by.length; i++) {
            x.pass();
            x.men(0, 0, 100);
            x.sign(0, 0, 0, 21);
            x.terms(0, -1);
            x.end(0);
            x.row();
            DUE.is(22, "count(3) behind calls that were refused", x.count(3), 1);
            x.word(0, 0, 0, 1);
            x.force(-1);
            x.hear(0, 0);
            x.tell(0, 0);
            x.forget();
            x.decades(1, 1);
            x.image(0);
            Due.law(x, "bars if day > 2 and day < 2");
            DUE.is(22, "count(3) behind calls that leave it", x.count(3), 1);
            if (i == 0) {
                x.men(0, 0, 0);
            } else if (i == 1) {
                x.sign(0, 0, 0, 0);
            } else if (i == 2) {
                x.terms(2, 0);
            } else {
                Due.tape(x, "\7");
                x.row();
            }
            DUE.is(22, "count(3) behind " + by[i], x.count(3), 0);
            DUE.is(22, "undo() behind " + by[i], x.undo(), -3);
        }
    }
}

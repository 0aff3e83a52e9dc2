/** Promises 40 to 43: images, counts and what the latest call was refused by. */
public final class ImagesTest {
    private static final Due DUE = new Due();

    public static void main(String[] args) {
        allGoneBackTo();
        imagesStay();
        doneAgain();
        whatImagesDoNotKeep();
        twoImages();
        imagesKeepLaws();
        counts();
        status();
        DUE.end();
    }

    /** All that can be asked of what an image keeps, as one number. */
    private static long sumOfAll(HyphenWar x) {
        long all = 7;
        for (int i = 0; i < 8; i++) {
            for (int what = 0; what < 7; what++) {
                all = all * 31 + x.at(i, what);
            }
            for (int side = 0; side < 2; side++) {
                all = all * 31 + x.reads(i, side, 0);
                all = all * 31 + x.reads(i, side, 1);
            }
        }
        for (int side = 0; side < 2; side++) {
            for (int what = 0; what < 4; what++) {
                all = all * 31 + x.of(side, what);
            }
        }
        int[] asked = {0, 1, 2, 10, 11, 12, 13};
        for (int what : asked) {
            all = all * 31 + x.count(what);
        }
        all = all * 31 + x.treaty(1);
        all = all * 31 + x.probably();
        all = all * 31 + x.ask(1);
        all = all * 31 + x.which();
        all = all * 31 + x.compare(0);
        return all * 31 + x.compare(1);
    }

    private static void setUp(HyphenWar x) {
        x.men(0, 1, 20);
        x.men(1, 1, 8);
        x.sign(3, 0, 0, 6);
        x.sign(3, 1, 0, 2);
        x.sign(3, 0, 1, 3);
        x.word(2, 0, 0, 4);
        x.word(2, 1, 0, 5);
        x.word(2, 0, 1, 8);
        x.terms(1, 4);
        x.terms(2, 3);
        x.hear(2, 1);
        x.tell(0, 6);
        x.tell(1, 2);
        Due.law(x, "costs 8;reads 6 if side = 0 and sign = 3;feeds 9;bars if column = 6");
        x.force(0);
        x.attack(0, 1);
        x.show(3, 0);
        x.pass();
    }

    private static void change(HyphenWar x) {
        x.men(0, 1, 2);
        x.men(1, 7, 3);
        x.sign(3, 0, 0, -6);
        x.sign(3, 0, 1, -1);
        x.sign(3, 1, 0, 9);
        x.word(2, 0, 0, -4);
        x.word(2, 0, 1, 1);
        x.word(5, 1, 1, 0);
        x.terms(1, 9);
        x.terms(2, 8);
        x.forget();
        x.hear(5, 0);
        x.tell(1, 1);
        Due.law(x, "costs 1;bars if column = 1");
        x.force(1);
        x.attack(1, 7);
        x.show(3, 1);
        x.pass();
    }

    private static void allGoneBackTo() {
        HyphenWar x = new HyphenWar();
        setUp(x);
        long set = sumOfAll(x);
        DUE.is(40, "image(0)", x.image(0), 0);
        DUE.is(40, "all behind image(0)", sumOfAll(x), set);
        DUE.is(40, "count(3) behind image(0)", x.count(3), 3);
        change(x);
        DUE.is(41, "back(0)", x.back(0), 0);
        DUE.is(41, "all", sumOfAll(x), set);
        DUE.is(41, "count(2)", x.count(2), 1);
        DUE.is(41, "force(1)", x.force(1), -2);
        DUE.is(41, "count(3)", x.count(3), 0);
        DUE.is(41, "undo()", x.undo(), -3);
    }

    private static void imagesStay() {
        HyphenWar x = new HyphenWar();
        long empty = sumOfAll(x);
        x.image(1);
        setUp(x);
        long set = sumOfAll(x);
        x.image(0);
        change(x);
        DUE.is(41, "back(1)", x.back(1), 0);
        DUE.is(41, "all as new", sumOfAll(x), empty);
        DUE.is(41, "back(0), images stay", x.back(0), 0);
        DUE.is(41, "all", sumOfAll(x), set);
    }

    /** What is done behind back() is as it was done the first time. */
    private static void doneAgain() {
        HyphenWar x = new HyphenWar();
        setUp(x);
        x.image(0);
        change(x);
        long changed = sumOfAll(x);
        x.back(0);
        change(x);
        DUE.is(41, "all", sumOfAll(x), changed);
        x.back(0);
        change(x);
        DUE.is(41, "all", sumOfAll(x), changed);
    }

    private static void whatImagesDoNotKeep() {
        HyphenWar x = new HyphenWar();
        x.image(0);
        Due.orders(x, "pass;attack 0 at 0");
        Due.tape(x, "\7\7");
        x.row();
        x.men(0, 4, 9);
        x.decades(5, 1);
        Due.law(x, "bars x");
        x.feed(1, 2, 3, 4, 5);
        x.back(0);
        DUE.is(41, "count(4)", x.count(4), 20);
        DUE.is(41, "fault()", x.fault(), 5);
        DUE.is(41, "strokes()", x.strokes(), 1);
        DUE.is(41, "stopped()", x.stopped(), 1);
        DUE.is(41, "drawn(4, 0)", x.drawn(4, 0), 1);
        DUE.is(41, "at(4, 1)", x.at(4, 1), 0);
        DUE.is(42, "count(7)", x.count(7), 1);
        DUE.is(42, "count(9)", x.count(9), 1);
    }

    private static void twoImages() {
        HyphenWar x = new HyphenWar();
        DUE.is(41, "back(0), not kept", x.back(0), -2);
        DUE.is(41, "back(1), not kept", x.back(1), -2);
        int[] wrong = {-1, 2, Integer.MIN_VALUE, Integer.MAX_VALUE};
        for (int w : wrong) {
            DUE.is(40, "image(" + w + ")", x.image(w), -1);
            DUE.is(41, "back(" + w + ")", x.back(w), -1);
        }
        x.men(0, 0, 1);
        x.image(0);
        x.men(0, 0, 2);
        x.image(1);
        x.men(0, 0, 3);
        x.pass();
        DUE.is(41, "back(0)", x.back(0), 0);
        DUE.is(41, "at(0, 1)", x.at(0, 1), 1);
        x.back(1);
        DUE.is(41, "at(0, 1)", x.at(0, 1), 2);
        x.men(0, 0, 4);
        x.image(0);
        x.back(1);
        x.back(0);
        DUE.is(41, "at(0, 1)", x.at(0, 1), 4);
        x.pass();
        x.back(2);
        DUE.is(41, "undo() behind a back() that was refused", x.undo(), 3);
    }

    private static void imagesKeepLaws() {
        HyphenWar x = new HyphenWar();
        x.image(1);
        DUE.inForce(x, "costs 11");
        x.image(0);
        x.back(1);
        DUE.is(41, "at(0, 3)", x.at(0, 3), 5);
        DUE.inForce(x, "costs 12");
        DUE.is(41, "at(0, 3), the other law 0", x.at(0, 3), 12);
        x.back(0);
        DUE.is(41, "at(0, 3), the first law 0", x.at(0, 3), 11);
        // many long texts, one behind the other
        for (int i = 0; i < 12; i++) {
            x.back(1);
            DUE.inForce(x, "costs 1;".repeat(10) + "costs " + "1+".repeat(38) + i);
            DUE.is(41, "at(0, 3)", x.at(0, 3), 38 + i);
        }
    }

    private static void counts() {
        HyphenWar x = new HyphenWar();
        for (int i = 0; i < 9; i++) {
            x.hear(i, 0);
        }
        for (int i = 0; i < 7; i++) {
            x.tell(0, 0);
        }
        x.hear(8, 1);
        x.hear(0, 1);
        for (int i = 0; i < 3; i++) {
            Due.law(x, "bars if day > 900");
        }
        x.force(2);
        x.force(3);
        x.force(-2);
        x.back(0);
        x.attack(0, 0);
        x.undo();
        x.pass();
        x.pass();
        x.row();
        Due.orders(x, "?");
        x.terms(1, 30);
        x.terms(2, 5);
        x.pass();
        x.pass();
        x.pass();
        x.feed(0, 0, 0, 0, 0);
        x.end(13);
        // what is asked and can't be is not refused
        x.at(9, 9);
        x.of(9, 9);
        x.reads(9, 9, 9);
        x.feed(0, 0, 0, 0, 0);
        x.end(13);
        x.end(99);
        x.treaty(9);
        x.ask(9);
        x.chain(9, 9, 9);
        x.stilled(9);
        x.pushed(9, 9);
        x.level(9);
        x.posts(9, 9);
        x.way(9, 9, 9, 9);
        x.holds(-9);
        x.compare(9);
        x.drawn(9, 9);
        int[] due = {8, 6, 3, 3, 13, 2, 3, 2, 2, 2, 2, 5, 30, 5};
        for (int what = 0; what < due.length; what++) {
            DUE.is(42, "count(" + what + ")", x.count(what), due[what]);
        }
        int[] none = {-1, 14, Integer.MIN_VALUE, Integer.MAX_VALUE};
        for (int n : none) {
            DUE.is(42, "count(" + n + ")", x.count(n), -1);
        }
    }

    private static void isRefused(HyphenWar x, String call, int got, int due) {
        DUE.is(43, call, got, due);
        DUE.is(43, "status() behind " + call, x.status(), due);
        DUE.is(43, "a call that was not refused", x.word(0, 0, 0, 0), 0);
        DUE.is(43, "status()", x.status(), 0);
    }

    private static void status() {
        HyphenWar x = new HyphenWar();
        isRefused(x, "men(2, 0, 0)", x.men(2, 0, 0), -1);
        isRefused(x, "sign(8, 0, 0, 0)", x.sign(8, 0, 0, 0), -1);
        isRefused(x, "terms(3, 0)", x.terms(3, 0), -1);
        isRefused(x, "row()", x.row(), -6);
        isRefused(x, "law()", x.law(), -6);
        isRefused(x, "orders()", x.orders(), -6);
        isRefused(x, "force(0)", x.force(0), -2);
        isRefused(x, "attack(0, 0)", x.attack(0, 0), -3);
        isRefused(x, "shift(0, 0, 1)", x.shift(0, 0, 1), -3);
        isRefused(x, "show(0, 2)", x.show(0, 2), -1);
        isRefused(x, "undo()", x.undo(), -3);
        isRefused(x, "hear(0, 2)", x.hear(0, 2), -1);
        isRefused(x, "tell(0, 21)", x.tell(0, 21), -1);
        isRefused(x, "decades(0, 0)", x.decades(0, 0), -1);
        isRefused(x, "image(2)", x.image(2), -1);
        isRefused(x, "back(1)", x.back(1), -2);
        x.terms(0, 999);
        isRefused(x, "pass()", x.pass(), -3);
        DUE.is(43, "word(8, 0, 0, 0)", x.word(8, 0, 0, 0), -1);
        // calls that are not named leave it
        x.at(0, 0);
        x.of(0, 0);
        x.reads(0, 0, 0);
        x.feed(0, 0, 0, 0, 0);
        x.end(0);
        x.strokes();
        x.fault();
        x.stopped();
        x.treaty(0);
        x.forget();
        x.probably();
        x.ask(0);
        x.chain(0, 0, 0);
        x.stilled(0);
        x.pushed(0, 0);
        x.level(0);
        x.posts(0, 0);
        x.way(0, 0, 1, 0);
        x.holds(0);
        x.which();
        x.compare(-1);
        x.drawn(0, 0);
        x.count(0);
        DUE.is(43, "status()", x.status(), -1);
        accepted(x);
    }

    private static void isAccepted(HyphenWar x, String call, int got, int due) {
        DUE.is(43, call, got, due);
        DUE.is(43, "status() behind " + call, x.status(), 0);
        x.men(-1, 0, 0);
        DUE.is(43, "status()", x.status(), -1);
    }

    private static void accepted(HyphenWar x) {
        isAccepted(x, "men(0, 0, 9)", x.men(0, 0, 9), 0);
        isAccepted(x, "sign(0, 0, 0, 1)", x.sign(0, 0, 0, 1), 0);
        isAccepted(x, "word(0, 0, 0, 1)", x.word(0, 0, 0, 1), 0);
        isAccepted(x, "terms(0, 5)", x.terms(0, 5), 999);
        isAccepted(x, "force(-1)", x.force(-1), -1);
        isAccepted(x, "attack(0, 0)", x.attack(0, 0), 1);
        isAccepted(x, "shift(0, 0, 1)", x.shift(0, 0, 1), 8);
        isAccepted(x, "show(0, 0)", x.show(0, 0), 1);
        isAccepted(x, "pass()", x.pass(), 6);
        isAccepted(x, "undo()", x.undo(), 3);
        isAccepted(x, "hear(0, 0)", x.hear(0, 0), 1);
        isAccepted(x, "tell(0, -1)", x.tell(0, -1), 1);
        isAccepted(x, "decades(0, 1)", x.decades(0, 1), 0);
        isAccepted(x, "image(0)", x.image(0), 0);
        isAccepted(x, "back(0)", x.back(0), 0);
        Due.tape(x, "bars");
        isAccepted(x, "law()", x.law(), 0);
        Due.tape(x, "pass");
        isAccepted(x, "orders()", x.orders(), 1);
        Due.tape(x, "x");
        isAccepted(x, "row()", x.row(), 0);
    }
}

import java.io.IOException;

/** The sentences of "Terms", I, with the one on the 512 calls and the constants: each with a test of its own. */
public final class BoundsOfNumbersTest {
    private static final int[] NO_SIDES = {-1, 2, 3, Bounds.LEAST, Bounds.MOST};
    private static final int[] NO_EIGHTS = {-1, 8, 9, Bounds.LEAST, Bounds.MOST};
    private static Bounds bounds;

    public static void main(String[] args) throws IOException {
        bounds = new Bounds("Object", "Terms I", "Constants");
        calls();
        sides();
        columns();
        lines();
        men();
        supplies();
        tempers();
        signs();
        readings();
        answers();
        words();
        worths();
        pauses();
        heard();
        told();
        day();
        need();
        mood();
        refusedByNumbers();
        refusedByNoSuch();
        refusedByWhatStands();
        refusedByNoRoom();
        refusedByTexts();
        firstInOrder();
        constants();
        bounds.end();
    }

    private static void calls() {
        bounds.of("Object", "An object is used for at most 512 calls after it has been made; what later calls answer is free.");
        HyphenWar x = new HyphenWar();
        for (int i = 1; i <= 512; i++) {
            bounds.is("pass(), call " + i, x.pass(), i);
        }
        HyphenWar y = new HyphenWar();
        y.men(0, 0, 9);
        for (int i = 2; i <= 510; i++) {
            bounds.is("at(0, 1), call " + i, y.at(0, 1), 9);
        }
        bounds.is("attack(0, 0), call 511", y.attack(0, 0), 1);
        bounds.is("undo(), call 512", y.undo(), 0);
        // free, but never thrown
        for (int i = 0; i < 600; i++) {
            y.men(i, i, i);
            y.feed(i, i, i, i, i);
            y.law();
            y.attack(0, 0);
        }
    }

    private static void sides() {
        bounds.of("Terms I", "SIDES 0, 1.");
        HyphenWar x = new HyphenWar();
        x.decades(1, 1);
        for (int s = 0; s < 2; s++) {
            bounds.are("calls of side " + s, new long[] {x.men(s, 0, 7), x.of(s, 3), x.sign(0, s, 0, 1), x.sign(0, s, 1, 2), x.reads(0, s, 0), x.reads(0, s, 1),
                x.word(0, s, 0, 1), x.word(0, s, 1, 6), x.shift(s, 0, 1), x.show(1, s), x.tell(s, 0), x.chain(0, s, 0), x.level(s), x.way(s, 3, 4, 2),
                x.drawn(s, 3), x.drawn(s, 4)}, 0, 7, 0, 0, 1, 2, 0, 0, 6, 1, s + 1, 2, 20, 1, 53, 20);
        }
        // 6 men against as many, then three less: side 1 has more
        bounds.are("attacks, pushed()", new long[] {x.attack(0, 0), x.attack(1, 0), x.pushed(0, 2), x.pushed(1, 2)}, 0, 1, 0, 1);
        String all = Bounds.all(x);
        for (int s : NO_SIDES) {
            bounds.are("calls of side " + s, new long[] {x.men(s, 0, 7), x.sign(0, s, 0, 1), x.sign(0, s, 1, 2), x.word(0, s, 0, 1), x.word(0, s, 1, 6), x.attack(s, 0),
                x.shift(s, 0, 1), x.show(1, s), x.tell(s, 0)}, -1, -1, -1, -1, -1, -1, -1, -1, -1);
            bounds.are("what is asked of side " + s, new long[] {x.of(s, 0), x.of(s, 1), x.of(s, 2), x.of(s, 3), x.chain(0, s, 0), x.chain(0, s, 1), x.pushed(s, 0),
                x.pushed(s, 1), x.pushed(s, 2), x.level(s), x.way(s, 3, 4, 0), x.way(s, 3, 4, 1), x.way(s, 3, 4, 2)}, -1, -1, -1, -1, -1, -1, -1, -1, -1, -1, -1, -1, -1);
            bounds.are("what is asked of side " + s, new long[] {x.reads(0, s, 0), x.reads(0, s, 1), x.drawn(s, 3), x.drawn(s, 4)}, -1000, -1000, -1000, -1000);
        }
        bounds.same("all behind that", Bounds.all(x), all);
    }

    private static void columns() {
        bounds.of("Terms I", "COLUMNS 0 .. 7:");
        HyphenWar x = new HyphenWar();
        x.decades(1, 1);
        for (int c = 0; c < 8; c++) {
            bounds.are("calls of column " + c, new long[] {x.men(0, c, c + 2), x.at(c, 0), x.at(c, 1), x.at(c, 2), x.at(c, 3), x.at(c, 4), x.at(c, 5), x.at(c, 6),
                x.attack(0, c), x.at(c, 0), x.drawn(c, 0), x.drawn(c, 1), x.drawn(c, 2)}, 0, 0, c + 2, 0, 5, 5, 0, 0, 1, 1, 0, 0, 0);
            bounds.are("from and to column " + c, new long[] {x.way(0, c, 7 - c, 0), x.way(0, 7 - c, c, 0)}, 0, 0);
        }
        for (int c : NO_EIGHTS) {
            noColumn(c);
        }
    }

    private static void noColumn(int c) {
        HyphenWar x = new HyphenWar();
        x.men(0, 0, 9);
        x.men(0, 7, 9);
        x.decades(1, 1);
        String all = Bounds.all(x);
        bounds.are("calls of column " + c, new long[] {x.men(0, c, 1), x.attack(0, c), x.shift(0, c, 1), x.shift(0, c, -1)}, -1, -1, -1, -1);
        for (int what = 0; what < 7; what++) {
            bounds.is("at(" + c + ", " + what + ")", x.at(c, what), -1000);
            bounds.is("drawn(" + c + ", " + what + ")", x.drawn(c, what), -1000);
        }
        for (int what = 0; what < 3; what++) {
            bounds.is("way(0, " + c + ", 0, " + what + ")", x.way(0, c, 0, what), -1);
            bounds.is("way(0, 0, " + c + ", " + what + ")", x.way(0, 0, c, what), -1);
        }
        bounds.same("all behind that", Bounds.all(x), all);
    }

    private static void lines() {
        bounds.of("Terms I", "LINE -3 .. 3 (0 at first; above 0: into what is side 1's),");
        HyphenWar x = new HyphenWar();
        for (int c = 0; c < 8; c++) {
            bounds.is("at(" + c + ", 0) at first", x.at(c, 0), 0);
        }
        x.men(0, 2, 1);
        x.men(1, 5, 1);
        int[] lines = {1, 2, 3, 3, 3};
        for (int line : lines) {
            x.attack(0, 2);
            bounds.is("at(2, 0) behind an attack of side 0", x.at(2, 0), line);
            x.attack(1, 5);
            bounds.is("at(5, 0) behind an attack of side 1", x.at(5, 0), -line);
        }
        x.men(0, 2, 0);
        x.men(1, 2, 1);
        x.men(1, 5, 0);
        x.men(0, 5, 1);
        int[] back = {2, 1, 0, -1, -2};
        for (int line : back) {
            x.attack(1, 2);
            bounds.is("at(2, 0) behind an attack of side 1", x.at(2, 0), line);
            x.attack(0, 5);
            bounds.is("at(5, 0) behind an attack of side 0", x.at(5, 0), -line);
        }
    }

    private static void men() {
        bounds.of("Terms I", "MEN 0 .. 99 of each SIDE (0 at first).");
        HyphenWar x = new HyphenWar();
        for (int side = 0; side < 2; side++) {
            for (int c = 0; c < 8; c++) {
                bounds.is("at(" + c + ", " + (1 + side) + ") at first", x.at(c, 1 + side), 0);
                bounds.is("men(" + side + ", " + c + ", 99)", x.men(side, c, 99), 0);
                for (int wrong : new int[] {-1, 100, Bounds.LEAST, Bounds.MOST}) {
                    bounds.is("men(" + side + ", " + c + ", " + wrong + ")", x.men(side, c, wrong), -1);
                }
                bounds.is("at(" + c + ", " + (1 + side) + ")", x.at(c, 1 + side), 99);
                bounds.is("men(" + side + ", " + c + ", 0)", x.men(side, c, 0), 99);
                bounds.is("men(" + side + ", " + c + ", 1)", x.men(side, c, 1), 0);
            }
        }
    }

    private static void supplies() {
        bounds.of("Terms I", "SUPPLY 0 .. 999 (50 at first),");
        HyphenWar x = new HyphenWar();
        for (int side = 0; side < 2; side++) {
            bounds.is("of(" + side + ", 0) at first", x.of(side, 0), 50);
            x.men(side, side, 1);
            for (int i = 1; i <= 10; i++) {
                x.attack(side, side);
                bounds.is("of(" + side + ", 0)", x.of(side, 0), 50 - 5 * i);
            }
            bounds.is("attack() with SUPPLY 0", x.attack(side, side), -3);
            bounds.is("of(" + side + ", 0)", x.of(side, 0), 0);
        }
        bounds.force(x, "feeds 99 if day < 10;feeds 9 if day = 10;feeds 1 if day > 10");
        int[] due = {99, 198, 297, 396, 495, 594, 693, 792, 891, 990, 999, 999, 999};
        for (int supply : due) {
            x.pass();
            bounds.are("of(0, 0), of(1, 0)", new long[] {x.of(0, 0), x.of(1, 0)}, supply, supply);
        }
    }

    private static void tempers() {
        bounds.of("Terms I", "TEMPER 0 .. 99 (20) of each SIDE.");
        for (int side = 0; side < 2; side++) {
            HyphenWar x = new HyphenWar();
            bounds.is("of(" + side + ", 1) at first", x.of(side, 1), 20);
            int[] by = {20, 20, 20, 18, 1, 1, 20, -20, -20, -20, -20, -18, -1, -1, -20, 1};
            int[] due = {40, 60, 80, 98, 99, 99, 99, 79, 59, 39, 19, 1, 0, 0, 0, 1};
            for (int i = 0; i < by.length; i++) {
                x.sign(3, side, 0, by[i]);
                x.show(3, side);
                bounds.is("of(" + side + ", 1) changed by " + by[i], x.of(side, 1), due[i]);
                bounds.is("of the other", x.of(1 - side, 1), 20);
            }
        }
    }

    private static void signs() {
        bounds.of("Terms I", "SIGNS 0 .. 7:");
        HyphenWar x = new HyphenWar();
        for (int s = 0; s < 8; s++) {
            bounds.are("calls of sign " + s, new long[] {x.sign(s, 0, 0, s + 1), x.sign(s, 1, 1, s), x.reads(s, 0, 0), x.reads(s, 1, 1), x.show(s, 0), x.chain(s, 1, 0)},
                    0, 0, s + 1, s, 1, 2);
        }
        String all = Bounds.all(x);
        for (int s : NO_EIGHTS) {
            bounds.are("calls of sign " + s, new long[] {x.sign(s, 0, 0, 1), x.sign(s, 1, 1, 1), x.show(s, 0), x.show(s, 1), x.chain(s, 0, 0), x.chain(s, 1, 1)},
                    -1, -1, -1, -1, -1, -1);
            bounds.are("reads() of sign " + s, new long[] {x.reads(s, 0, 0), x.reads(s, 1, 1)}, -1000, -1000);
        }
        bounds.same("all behind that", Bounds.all(x), all);
    }

    private static void readings() {
        bounds.of("Terms I", "how each SIDE READS it, -20 .. 20 (0 at first),");
        HyphenWar x = new HyphenWar();
        for (int i = 0; i < 16; i++) {
            int s = i / 2;
            int side = i % 2;
            bounds.is("reads(" + s + ", " + side + ", 0) at first", x.reads(s, side, 0), 0);
            for (int value : new int[] {20, -20}) {
                bounds.is("sign(" + s + ", " + side + ", 0, " + value + ")", x.sign(s, side, 0, value), 0);
                for (int wrong : new int[] {-21, 21, Bounds.LEAST, Bounds.MOST}) {
                    bounds.is("sign(" + s + ", " + side + ", 0, " + wrong + ")", x.sign(s, side, 0, wrong), -1);
                }
                bounds.is("reads(" + s + ", " + side + ", 0)", x.reads(s, side, 0), value);
            }
        }
    }

    private static void answers() {
        bounds.of("Terms I", "and the SIGN by which it ANSWERS it, or NONE (as at first).");
        for (int side = 0; side < 2; side++) {
            HyphenWar x = new HyphenWar();
            for (int s = 0; s < 8; s++) {
                bounds.is("reads(" + s + ", " + side + ", 1) at first", x.reads(s, side, 1), -1);
                for (int value : new int[] {0, 7, 7 - s}) {
                    bounds.is("sign(" + s + ", " + side + ", 1, " + value + ")", x.sign(s, side, 1, value), 0);
                    for (int wrong : new int[] {-2, 8, Bounds.LEAST, Bounds.MOST}) {
                        bounds.is("sign(" + s + ", " + side + ", 1, " + wrong + ")", x.sign(s, side, 1, wrong), -1);
                    }
                    bounds.is("reads(" + s + ", " + side + ", 1)", x.reads(s, side, 1), value);
                    bounds.is("reads(" + s + ", " + (1 - side) + ", 1)", x.reads(s, 1 - side, 1), -1);
                }
                bounds.is("sign(" + s + ", " + side + ", 1, -1)", x.sign(s, side, 1, -1), 0);
                bounds.is("reads(" + s + ", " + side + ", 1)", x.reads(s, side, 1), -1);
            }
        }
    }

    private static void words() {
        bounds.of("Terms I", "WORDS 0 .. 7:");
        HyphenWar x = new HyphenWar();
        for (int w = 0; w < 8; w++) {
            bounds.are("calls of word " + w, new long[] {x.word(w, 0, 0, 9), x.word(w, 1, 0, 9), x.treaty(1), x.word(w, 0, 0, -9), x.hear(w, 1), x.forget()},
                    0, 0, 1 << w, 0, 1, 1);
        }
        String all = Bounds.all(x);
        for (int w : NO_EIGHTS) {
            bounds.are("calls of word " + w, new long[] {x.word(w, 0, 0, 1), x.word(w, 1, 1, 1), x.hear(w, 0), x.hear(w, 1)}, -1, -1, -1, -1);
        }
        bounds.same("all behind that", Bounds.all(x), all);
    }

    private static void worths() {
        bounds.of("Terms I", "what each is WORTH to each SIDE, -9 .. 9 (0),");
        for (int side = 0; side < 2; side++) {
            HyphenWar x = new HyphenWar();
            for (int w = 0; w < 8; w++) {
                x.word(w, 1 - side, 0, 9);
                x.terms(1, 1);
                bounds.is("treaty(0), worth 0 at first", x.treaty(0), -1);
                bounds.is("word(" + w + ", " + side + ", 0, 9)", x.word(w, side, 0, 9), 0);
                for (int wrong : new int[] {-10, 10, Bounds.LEAST, Bounds.MOST}) {
                    bounds.is("word(" + w + ", " + side + ", 0, " + wrong + ")", x.word(w, side, 0, wrong), -1);
                }
                x.terms(1, 9);
                bounds.is("treaty(1), worth 9", x.treaty(1), 1 << w);
                x.terms(1, 10);
                bounds.is("treaty(1), worth 9", x.treaty(1), -1);
                // with the next word's 9 a treaty's worth is 0 to that side
                bounds.is("word(" + w + ", " + side + ", 0, -9)", x.word(w, side, 0, -9), 0);
                x.terms(1, 1);
                x.word((w + 1) % 8, side, 0, 9);
                x.word((w + 1) % 8, 1 - side, 0, -8);
                bounds.is("treaty(1), worth -9", x.treaty(1), -1);
                x.word((w + 1) % 8, side, 0, 0);
                x.word((w + 1) % 8, 1 - side, 0, 0);
                x.word(w, side, 0, 0);
                x.word(w, 1 - side, 0, 0);
            }
        }
    }

    private static void pauses() {
        bounds.of("Terms I", "in how many of ten one of each SIDE PAUSES at it, 0 .. 10 (5).");
        HyphenWar x = new HyphenWar();
        for (int w = 0; w < 8; w++) {
            x.hear(w, 1);
            x.word(w, 0, 1, 10);
            bounds.is("probably(), 10 and 5 at first", x.probably(), 666666);
            x.word(w, 0, 1, 5);
            x.word(w, 1, 1, 10);
            bounds.is("probably(), 5 at first and 10", x.probably(), 333333);
            for (int side = 0; side < 2; side++) {
                for (int wrong : new int[] {-1, 11, Bounds.LEAST, Bounds.MOST}) {
                    bounds.is("word(" + w + ", " + side + ", 1, " + wrong + ")", x.word(w, side, 1, wrong), -1);
                }
            }
            bounds.is("probably()", x.probably(), 333333);
            bounds.is("word(" + w + ", 0, 1, 0)", x.word(w, 0, 1, 0), 0);
            bounds.is("probably(), 0 and 10", x.probably(), 0);
            bounds.is("word(" + w + ", 1, 1, 0)", x.word(w, 1, 1, 0), 0);
            bounds.is("probably(), 0 and 0", x.probably(), 500000);
            bounds.is("word(" + w + ", 0, 1, 10)", x.word(w, 0, 1, 10), 0);
            bounds.is("probably(), 10 and 0", x.probably(), 1000000);
            x.forget();
            x.word(w, 0, 1, 5);
            x.word(w, 1, 1, 5);
        }
    }

    private static void heard() {
        bounds.of("Terms I", "HEARD, 8 at most: a prisoner paused (1) or not (0) at a WORD.");
        HyphenWar x = new HyphenWar();
        for (int i = 1; i <= 8; i++) {
            bounds.is("hear(), time " + i, x.hear(8 - i, i % 2), i);
        }
        bounds.refused(x, "hear(), the ninth", y -> y.hear(0, 1), -5);
        bounds.is("count(0)", x.count(0), 8);
        x.forget();
        x.word(4, 0, 1, 8);
        x.word(4, 1, 1, 2);
        for (int wrong : new int[] {-1, 2, Bounds.LEAST, Bounds.MOST}) {
            bounds.is("hear(4, " + wrong + ")", x.hear(4, wrong), -1);
        }
        bounds.is("count(0)", x.count(0), 0);
        x.hear(4, 1);
        bounds.is("probably(), paused", x.probably(), 800000);
        x.forget();
        x.hear(4, 0);
        bounds.is("probably(), not paused", x.probably(), 200000);
    }

    private static void told() {
        bounds.of("Terms I", "TOLD, 6 at most: TEMPER of a SIDE was changed by -20 .. 20.");
        HyphenWar x = new HyphenWar();
        int[] by = {20, -20, 0, 1, -1, 20};
        for (int i = 0; i < 6; i++) {
            bounds.is("tell(" + i % 2 + ", " + by[i] + ")", x.tell(i % 2, by[i]), i + 1);
        }
        bounds.refused(x, "tell(), the seventh", y -> y.tell(0, 0), -5);
        bounds.is("count(1)", x.count(1), 6);
        x.forget();
        for (int wrong : new int[] {-21, 21, Bounds.LEAST, Bounds.MOST}) {
            bounds.is("tell(0, " + wrong + ")", x.tell(0, wrong), -1);
        }
        bounds.is("count(1)", x.count(1), 0);
        x.sign(2, 0, 0, 20);
        x.sign(5, 0, 0, -20);
        x.tell(0, 20);
        bounds.is("which(), by 20", x.which(), 4);
        x.forget();
        x.tell(0, -20);
        bounds.is("which(), by -20", x.which(), 32);
    }

    private static void term(int what, int low, int high, int first) {
        HyphenWar x = new HyphenWar();
        bounds.is("count(" + (11 + what) + ") at first", x.count(11 + what), first);
        bounds.is("terms(" + what + ", " + low + ")", x.terms(what, low), first);
        bounds.is("terms(" + what + ", " + high + ")", x.terms(what, high), low);
        for (int wrong : new int[] {low - 1, high + 1, Bounds.LEAST, Bounds.MOST}) {
            bounds.is("terms(" + what + ", " + wrong + ")", x.terms(what, wrong), -1);
            bounds.is("count(" + (11 + what) + ")", x.count(11 + what), high);
        }
        for (int other = 0; other < 3; other++) {
            bounds.is("count(" + (11 + other) + ")", x.count(11 + other), other == what ? high : new int[] {0, 3, 0}[other]);
        }
    }

    private static void day() {
        bounds.of("Terms I", "TERMS: 0 DAY 0 .. 999 (0 at first),");
        term(0, 0, 999, 0);
        HyphenWar x = new HyphenWar();
        for (int wrong : new int[] {-1, 3, Bounds.LEAST, Bounds.MOST}) {
            bounds.is("terms(" + wrong + ", 1)", x.terms(wrong, 1), -1);
        }
        bounds.is("pass()", x.pass(), 1);
    }

    private static void need() {
        bounds.of("Terms I", "1 NEED 1 .. 40 (3),");
        term(1, 1, 40, 3);
        HyphenWar x = new HyphenWar();
        x.word(0, 0, 0, 3);
        x.word(0, 1, 0, 2);
        bounds.is("treaty(0), worth 2 where 3 are needed at first", x.treaty(0), -1);
        x.word(0, 1, 0, 3);
        bounds.is("treaty(0), worth 3 where 3 are needed at first", x.treaty(0), 1);
    }

    private static void mood() {
        bounds.of("Terms I", "2 MOOD 0 .. 9 (0).");
        term(2, 0, 9, 0);
        HyphenWar x = bounds.under("costs mood + 10");
        bounds.is("at(0, 3) at first", x.at(0, 3), 10);
        x.terms(2, 9);
        bounds.is("at(0, 3)", x.at(0, 3), 19);
    }

    private static void refusedByNumbers() {
        bounds.of("Terms I", "REFUSED by: -1 a number that can't be;");
        HyphenWar x = new HyphenWar();
        x.men(0, 0, 5);
        x.pass();
        String all = Bounds.all(x);
        bounds.refused(x, "men(0, 0, 100)", y -> y.men(0, 0, 100), -1);
        bounds.refused(x, "sign(0, 0, 2, 0)", y -> y.sign(0, 0, 2, 0), -1);
        bounds.refused(x, "word(0, 0, 2, 0)", y -> y.word(0, 0, 2, 0), -1);
        bounds.refused(x, "terms(1, 0)", y -> y.terms(1, 0), -1);
        bounds.refused(x, "attack(0, 8)", y -> y.attack(0, 8), -1);
        bounds.refused(x, "shift(0, 0, 0)", y -> y.shift(0, 0, 0), -1);
        bounds.refused(x, "show(8, 0)", y -> y.show(8, 0), -1);
        bounds.refused(x, "hear(8, 0)", y -> y.hear(8, 0), -1);
        bounds.refused(x, "tell(0, 21)", y -> y.tell(0, 21), -1);
        bounds.refused(x, "decades(0, 0)", y -> y.decades(0, 0), -1);
        bounds.refused(x, "image(2)", y -> y.image(2), -1);
        bounds.refused(x, "back(2)", y -> y.back(2), -1);
        bounds.same("all behind what was refused", Bounds.all(x), all);
    }

    private static void refusedByNoSuch() {
        bounds.of("Terms I", "-2 there is no such LAW, IMAGE;");
        HyphenWar x = bounds.under("costs 7");
        x.pass();
        String all = Bounds.all(x);
        for (int law : new int[] {1, -2, 6, Bounds.LEAST, Bounds.MOST}) {
            bounds.refused(x, "force(" + law + ")", y -> y.force(law), -2);
        }
        bounds.refused(x, "back(0)", y -> y.back(0), -2);
        x.image(1);
        bounds.refused(x, "back(0), 1 is kept", y -> y.back(0), -2);
        bounds.same("all behind what was refused", Bounds.all(x), all);
    }

    private static void refusedByWhatStands() {
        bounds.of("Terms I", "-3 it can't be by what stands;");
        HyphenWar x = new HyphenWar();
        x.men(0, 0, 5);
        x.men(0, 1, 99);
        x.terms(0, 999);
        String all = Bounds.all(x);
        bounds.refused(x, "attack(0, 2)", y -> y.attack(0, 2), -3);
        bounds.refused(x, "shift(0, 0, 1)", y -> y.shift(0, 0, 1), -3);
        bounds.refused(x, "pass()", y -> y.pass(), -3);
        bounds.refused(x, "undo()", y -> y.undo(), -3);
        Due.tape(x, "show 0 to 0;pass");
        bounds.refused(x, "orders()", y -> y.orders(), -3);
        bounds.is("stopped()", x.stopped(), 1);
        Due.orders(x, "pass if 1 = 2");
        bounds.same("all behind what was refused", Bounds.all(x), all);
    }

    private static void refusedByNoRoom() {
        bounds.of("Terms I", "-5 no room;");
        HyphenWar x = new HyphenWar();
        for (int i = 0; i < 8; i++) {
            x.hear(1, 1);
            x.tell(1, 1);
            Due.law(x, "bars if day > 1");
        }
        x.pass();
        String all = Bounds.all(x);
        bounds.refused(x, "hear(0, 0)", y -> y.hear(0, 0), -5);
        bounds.refused(x, "tell(0, 0)", y -> y.tell(0, 0), -5);
        Due.tape(x, "bars");
        bounds.refused(x, "law()", y -> y.law(), -5);
        bounds.same("all behind what was refused", Bounds.all(x), all);
    }

    private static void refusedByTexts() {
        bounds.of("Terms I", "-6 a TEXT, a ROW that can't be.");
        HyphenWar x = new HyphenWar();
        x.pass();
        String kept = Bounds.kept(x);
        bounds.refused(x, "row()", y -> y.row(), -6);
        bounds.refused(x, "law()", y -> y.law(), -6);
        bounds.refused(x, "orders()", y -> y.orders(), -6);
        Due.tape(x, "bars bars");
        bounds.refused(x, "law()", y -> y.law(), -6);
        Due.tape(x, "pass;pass pass");
        bounds.refused(x, "orders()", y -> y.orders(), -6);
        bounds.same("all behind what was refused", Bounds.kept(x), kept);
        bounds.is("count(3)", x.count(3), 1);
    }

    private static void firstInOrder() {
        bounds.of("Terms I", "The first of these in that order.");
        HyphenWar x = new HyphenWar();
        for (int i = 0; i < 8; i++) {
            x.hear(1, 1);
            x.tell(1, 1);
            Due.law(x, "bars");
        }
        x.force(0);
        bounds.refused(x, "hear(8, 0), full", y -> y.hear(8, 0), -1);
        bounds.refused(x, "hear(0, 2), full", y -> y.hear(0, 2), -1);
        bounds.refused(x, "tell(2, 0), full", y -> y.tell(2, 0), -1);
        bounds.refused(x, "tell(0, -21), full", y -> y.tell(0, -21), -1);
        bounds.refused(x, "back(2), none is kept", y -> y.back(2), -1);
        bounds.refused(x, "back(-1), none is kept", y -> y.back(-1), -1);
        bounds.refused(x, "attack(2, 0), no men, barred", y -> y.attack(2, 0), -1);
        bounds.refused(x, "attack(0, -1), no men, barred", y -> y.attack(0, -1), -1);
        bounds.refused(x, "shift(0, 7, 1), no men", y -> y.shift(0, 7, 1), -1);
        bounds.refused(x, "shift(0, 0, -1), no men", y -> y.shift(0, 0, -1), -1);
        bounds.refused(x, "shift(0, 3, 0), no men", y -> y.shift(0, 3, 0), -1);
        bounds.refused(x, "shift(0, 3, 100), no men", y -> y.shift(0, 3, 100), -1);
        Due.tape(x, "bars bars");
        bounds.refused(x, "law() of a fault, full", y -> y.law(), -5);
        bounds.refused(x, "law() of nothing, full", y -> y.law(), -5);
    }

    private static void constants() {
        bounds.of("Constants", "`NONE = -1`: There is none.");
        bounds.is("NONE", HyphenWar.NONE, -1);
        HyphenWar x = new HyphenWar();
        bounds.is("count(10)", x.count(10), HyphenWar.NONE);
        bounds.of("Constants", "`NOTHING = -1000`: What is not there, where it could be below 0.");
        bounds.is("NOTHING", HyphenWar.NOTHING, -1000);
        bounds.are("at(), reads(), drawn()", new long[] {x.at(8, 0), x.reads(8, 0, 0), x.drawn(0, 0)}, HyphenWar.NOTHING, HyphenWar.NOTHING, HyphenWar.NOTHING);
    }
}

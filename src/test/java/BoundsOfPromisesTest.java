import java.io.IOException;

/** The sentences of "Promise 1" to "Promise 43": each with a test of its own. */
public final class BoundsOfPromisesTest {
    private static final int LEAST = Bounds.LEAST;
    private static final int MOST = Bounds.MOST;
    private static final int[] NO_BITS = {-1, 2, LEAST, MOST};
    private static final int[] NO_EIGHTS = {-1, 8, LEAST, MOST};
    private static Bounds bounds;

    public static void main(String[] args) throws IOException {
        bounds = new Bounds("Promise");
        frontAndSides();
        signsAndWords();
        tapes();
        texts();
        acts();
        undoes();
        prisoners();
        signsOnPaper();
        frontOnPaper();
        decadesAndImages();
        countsAndStatus();
        bounds.end();
    }

    private static void frontAndSides() {
        newObject();
        men();
        at();
        of();
    }

    private static void newObject() {
        bounds.of("Promise 1", "A front without men.");
        HyphenWar x = new HyphenWar();
        for (int c = 0; c < 8; c++) {
            bounds.are("column " + c, new long[] {x.at(c, 0), x.at(c, 1), x.at(c, 2), x.at(c, 3), x.at(c, 4), x.at(c, 5), x.at(c, 6)}, 0, 0, 0, 5, 5, 0, 0);
        }
        for (int s = 0; s < 2; s++) {
            bounds.are("side " + s, new long[] {x.of(s, 0), x.of(s, 1), x.of(s, 2), x.of(s, 3), x.level(s), x.pushed(s, 0)}, 50, 20, 3, 0, 0, 0);
        }
        bounds.are("fault(), stopped(), strokes(), status(), treaty(0), count(3), count(4)",
                new long[] {x.fault(), x.stopped(), x.strokes(), x.status(), x.treaty(0), x.count(3), x.count(4)}, -1, -1, 0, 0, -1, 0, 0);
        x.men(0, 0, 9);
        x.pass();
        HyphenWar y = new HyphenWar();
        bounds.are("another new object", new long[] {y.at(0, 1), y.count(11), y.count(3)}, 0, 0, 0);
    }

    private static void men() {
        bounds.of("Promise 2", "MEN of a SIDE in a COLUMN: how many there were.");
        HyphenWar x = new HyphenWar();
        bounds.are("men()", new long[] {x.men(0, 7, 99), x.men(0, 7, 0), x.men(0, 7, 1), x.men(1, 7, 5), x.men(0, 0, 3), x.at(7, 1), x.at(7, 2), x.at(0, 1)},
                0, 99, 0, 0, 0, 1, 5, 3);
        x.men(1, 0, 2);
        x.attack(0, 0);
        bounds.is("men(1, 0, 0), behind an attack", x.men(1, 0, 0), 1);
        bounds.of("Promise 2", "-1.");
        int[][] wrong = {{-1, 0, 1}, {2, 0, 1}, {0, -1, 1}, {0, 8, 1}, {0, 0, -1}, {0, 0, 100}, {LEAST, LEAST, LEAST}, {MOST, MOST, MOST}, {0, 0, LEAST}, {0, 0, MOST}};
        for (int[] w : wrong) {
            bounds.refused(x, "men(" + w[0] + ", " + w[1] + ", " + w[2] + ")", y -> y.men(w[0], w[1], w[2]), -1);
        }
        bounds.are("MEN stay", new long[] {x.at(7, 1), x.at(7, 2), x.at(0, 1), x.at(0, 2)}, 1, 5, 3, 0);
    }

    private static void at() {
        bounds.of("Promise 3", "Of a COLUMN LINE (what 0), MEN of SIDE 0, 1 (1, 2), what an attack of SIDE 0, 1 COSTS (3, 4), whether BARRED (5, 6: 1, 0).");
        HyphenWar x = bounds.under("costs 10*side+column;bars if side=0 and column=7;bars if side=1 and column=0");
        x.men(0, 0, 3);
        x.men(1, 7, 4);
        x.attack(0, 0);
        bounds.are("at(0, ..)", new long[] {x.at(0, 0), x.at(0, 1), x.at(0, 2), x.at(0, 3), x.at(0, 4), x.at(0, 5), x.at(0, 6)}, 1, 3, 0, 0, 10, 0, 1);
        x.attack(1, 7);
        bounds.are("at(7, ..)", new long[] {x.at(7, 0), x.at(7, 1), x.at(7, 2), x.at(7, 3), x.at(7, 4), x.at(7, 5), x.at(7, 6)}, -1, 0, 4, 7, 17, 1, 0);
        bounds.of("Promise 3", "NOTHING.");
        int[][] nothing = {{-1, 0}, {8, 0}, {0, -1}, {0, 7}, {7, 7}, {LEAST, 0}, {MOST, 0}, {0, LEAST}, {0, MOST}, {-1, -1}, {8, 7}};
        for (int[] n : nothing) {
            bounds.is("at(" + n[0] + ", " + n[1] + ")", x.at(n[0], n[1]), -1000);
        }
        bounds.are("no refusal", new long[] {x.status(), x.count(5)}, 0, 0);
    }

    private static void of() {
        bounds.of("Promise 4", "Of a SIDE SUPPLY (what 0), TEMPER (1), by what a DAY FEEDS it (2), all its MEN (3).");
        HyphenWar x = bounds.under("feeds 7+side");
        for (int c = 0; c < 8; c++) {
            x.men(0, c, 99);
            x.men(1, c, c);
        }
        x.sign(0, 1, 0, 4);
        x.show(0, 1);
        x.attack(0, 0);
        bounds.are("of(0, ..)", new long[] {x.of(0, 0), x.of(0, 1), x.of(0, 2), x.of(0, 3)}, 45, 20, 7, 792);
        bounds.are("of(1, ..)", new long[] {x.of(1, 0), x.of(1, 1), x.of(1, 2), x.of(1, 3)}, 50, 24, 8, 28);
        bounds.of("Promise 4", "NONE.");
        int[][] none = {{-1, 0}, {2, 0}, {0, -1}, {0, 4}, {1, 4}, {LEAST, 0}, {MOST, 0}, {0, LEAST}, {0, MOST}};
        for (int[] n : none) {
            bounds.is("of(" + n[0] + ", " + n[1] + ")", x.of(n[0], n[1]), -1);
        }
        bounds.are("no refusal", new long[] {x.status(), x.count(5)}, 0, 0);
    }

    private static void signsAndWords() {
        sign();
        reads();
        word();
        terms();
    }

    private static void sign() {
        bounds.of("Promise 5", "How a SIDE READS a SIGN (what 0), the SIGN by which it ANSWERS it (1; NONE: none): 0.");
        HyphenWar x = new HyphenWar();
        bounds.are("sign()", new long[] {x.sign(7, 1, 0, 20), x.sign(7, 0, 0, -20), x.sign(7, 1, 1, 7), x.sign(7, 0, 1, 0), x.sign(0, 0, 1, -1)}, 0, 0, 0, 0, 0);
        bounds.are("reads()", new long[] {x.reads(7, 1, 0), x.reads(7, 0, 0), x.reads(7, 1, 1), x.reads(7, 0, 1), x.reads(0, 0, 1)}, 20, -20, 7, 0, -1);
        bounds.are("an answer taken away", new long[] {x.sign(7, 1, 1, -1), x.reads(7, 1, 1), x.reads(7, 1, 0)}, 0, -1, 20);
        bounds.of("Promise 5", "-1.");
        int[][] wrong = {{-1, 0, 0, 1}, {8, 0, 0, 1}, {0, -1, 0, 1}, {0, 2, 0, 1}, {0, 0, -1, 1}, {0, 0, 2, 1}, {0, 0, 0, 21}, {0, 0, 0, -21}, {0, 0, 1, 8}, {0, 0, 1, -2},
            {LEAST, 0, 1, 1}, {0, MOST, 1, 1}, {0, 0, LEAST, 1}, {0, 0, MOST, 1}, {0, 0, 0, LEAST}, {0, 0, 1, MOST}};
        for (int[] w : wrong) {
            bounds.refused(x, "sign(" + w[0] + ", " + w[1] + ", " + w[2] + ", " + w[3] + ")", y -> y.sign(w[0], w[1], w[2], w[3]), -1);
        }
        bounds.are("as it was", new long[] {x.reads(0, 0, 0), x.reads(0, 0, 1)}, 0, -1);
    }

    private static void reads() {
        bounds.of("Promise 6", "How a SIDE READS a SIGN now by law (what 0), the SIGN by which it ANSWERS (1; NONE).");
        HyphenWar x = bounds.under("reads temper if sign=2;reads 0-99 if sign=3");
        x.sign(2, 0, 0, -7);
        x.sign(4, 0, 0, -7);
        x.sign(4, 1, 1, 0);
        bounds.are("reads()", new long[] {x.reads(2, 0, 0), x.reads(3, 1, 0), x.reads(4, 0, 0), x.reads(4, 1, 0), x.reads(4, 1, 1), x.reads(4, 0, 1)}, 20, -20, -7, 0, 0, -1);
        x.show(3, 0);
        bounds.is("reads(2, 0, 0), by law, now", x.reads(2, 0, 0), 0);
        x.force(-1);
        bounds.is("reads(2, 0, 0), without", x.reads(2, 0, 0), -7);
        bounds.of("Promise 6", "NOTHING.");
        int[][] nothing = {{-1, 0, 0}, {8, 0, 0}, {0, -1, 0}, {0, 2, 0}, {0, 0, -1}, {0, 0, 2}, {LEAST, 0, 1}, {0, MOST, 1}, {0, 0, LEAST}, {0, 0, MOST}, {8, 1, 1}, {0, 2, 1}};
        for (int[] n : nothing) {
            bounds.is("reads(" + n[0] + ", " + n[1] + ", " + n[2] + ")", x.reads(n[0], n[1], n[2]), -1000);
        }
        bounds.are("no refusal", new long[] {x.status(), x.count(5)}, 0, 0);
    }

    private static void word() {
        bounds.of("Promise 7", "What a WORD is WORTH to a SIDE (what 0), in how many of ten one PAUSES (1): 0.");
        HyphenWar x = new HyphenWar();
        bounds.are("word()", new long[] {x.word(7, 0, 0, 9), x.word(7, 1, 0, 9), x.word(0, 0, 0, -9), x.word(7, 0, 1, 10), x.word(7, 1, 1, 0)}, 0, 0, 0, 0, 0);
        x.hear(7, 1);
        bounds.are("treaty(1), probably()", new long[] {x.treaty(1), x.probably()}, 128, 1000000);
        bounds.of("Promise 7", "-1.");
        int[][] wrong = {{-1, 0, 0, 1}, {8, 0, 0, 1}, {7, -1, 0, 1}, {7, 2, 0, 1}, {7, 0, -1, 1}, {7, 0, 2, 1}, {7, 0, 0, 10}, {7, 0, 0, -10}, {7, 0, 1, 11}, {7, 0, 1, -1},
            {LEAST, 0, 1, 1}, {7, MOST, 1, 1}, {7, 0, LEAST, 1}, {7, 0, MOST, 1}, {7, 0, 0, LEAST}, {7, 0, 1, MOST}};
        for (int[] w : wrong) {
            bounds.refused(x, "word(" + w[0] + ", " + w[1] + ", " + w[2] + ", " + w[3] + ")", y -> y.word(w[0], w[1], w[2], w[3]), -1);
        }
        bounds.are("treaty(1), probably()", new long[] {x.treaty(1), x.probably()}, 128, 1000000);
    }

    private static void terms() {
        bounds.of("Promise 8", "A TERM: what it was.");
        HyphenWar x = new HyphenWar();
        bounds.are("terms()", new long[] {x.terms(0, 999), x.terms(0, 0), x.terms(0, 500), x.terms(1, 40), x.terms(1, 1), x.terms(1, 7), x.terms(2, 9), x.terms(2, 0), x.terms(2, 4)},
                0, 999, 0, 3, 40, 1, 0, 9, 0);
        bounds.are("count(11), count(12), count(13)", new long[] {x.count(11), x.count(12), x.count(13)}, 500, 7, 4);
        x.pass();
        bounds.is("terms(0, 3), behind a day", x.terms(0, 3), 501);
        bounds.of("Promise 8", "-1.");
        int[][] wrong = {{-1, 1}, {3, 1}, {0, -1}, {0, 1000}, {1, 0}, {1, 41}, {2, -1}, {2, 10}, {LEAST, 1}, {MOST, 1}, {0, LEAST}, {0, MOST}, {1, LEAST}, {2, MOST}};
        for (int[] w : wrong) {
            bounds.refused(x, "terms(" + w[0] + ", " + w[1] + ")", y -> y.terms(w[0], w[1]), -1);
        }
        bounds.are("count(11), count(12), count(13)", new long[] {x.count(11), x.count(12), x.count(13)}, 3, 7, 4);
    }

    private static void tapes() {
        feed();
        end();
        row();
        strokes();
    }

    private static void feed() {
        bounds.of("Promise 9", "Twenty bytes come behind the TAPE, four of each number, the highest first: how many it has.");
        HyphenWar x = new HyphenWar();
        // 0 1 2, 3 ..: three of it men(0, 1, 2), (1, 7, 99), (1, 0, 98), then strokes: 255s
        bounds.is("feed()", x.feed(0x00010201, 0x07630100, 0x62ffffff, -1, 0x00000005), 20);
        bounds.is("feed(), behind it", x.feed(0x06000000, 0x00000000, 0, LEAST, MOST), 40);
        // bytes 15 .. 20 are 255, 0, 0 and 0, 5, 6
        bounds.are("row(), strokes()", new long[] {x.row(), x.strokes()}, 8, 6);
        bounds.are("MEN", new long[] {x.at(1, 1), x.at(7, 2), x.at(0, 2), x.at(5, 1)}, 2, 99, 98, 6);
        bounds.of("Promise 9", "NONE, if there would be more than 400.");
        HyphenWar y = new HyphenWar();
        for (int i = 1; i <= 20; i++) {
            bounds.is("feed()", y.feed(0x01060301, 0x06030106, 0x03010603, 0x01060301, 0x06030106), 20 * i);
        }
        bounds.are("feed() at 400", new long[] {y.feed(0, 0, 0, 0, 0), y.count(4)}, -1, 400);
        y.end(381);
        bounds.are("feed() at 381", new long[] {y.feed(0, 0, 0, 0, 0), y.count(4)}, -1, 381);
        y.end(380);
        bounds.are("feed() at 380", new long[] {y.feed(0, 0, 0, 0, 0), y.count(4)}, 400, 400);
        bounds.are("no refusal", new long[] {y.status(), y.count(5)}, 0, 0);
    }

    private static void end() {
        bounds.of("Promise 10", "The TAPE has its first n bytes alone: n.");
        HyphenWar x = new HyphenWar();
        bounds.is("end(0) of nothing", x.end(0), 0);
        x.feed(0x00020500, 0x03060004, 0x07000508, 0, 0);
        bounds.are("end(20), end(9)", new long[] {x.end(20), x.count(4), x.end(9), x.count(4), x.end(9)}, 20, 20, 9, 9, 9);
        bounds.are("row()", new long[] {x.row(), x.at(2, 1), x.at(3, 1), x.at(4, 1), x.at(5, 1)}, 3, 5, 6, 7, 0);
        // what was cut off does not come back
        x.feed(0x00000900, 0x00000000, 0, 0, 0);
        x.end(2);
        x.feed(0x08000000, 0, 0, 0, 0);
        bounds.are("bytes behind the cut", new long[] {x.count(4), x.end(3), x.row(), x.at(0, 1)}, 22, 3, 1, 8);
        x.feed(0, 0, 0, 0, 0);
        bounds.are("end(0)", new long[] {x.end(0), x.count(4)}, 0, 0);
        bounds.of("Promise 10", "NONE, if it has not so many, or n is below 0.");
        bounds.is("end(1) of nothing", x.end(1), -1);
        x.feed(0, 0, 0, 0, 0);
        for (int n : new int[] {21, -1, LEAST, MOST, 400}) {
            bounds.are("end(" + n + ") of 20", new long[] {x.end(n), x.count(4)}, -1, 20);
        }
        bounds.are("no refusal", new long[] {x.status(), x.count(5)}, 0, 0);
    }

    private static void row() {
        bounds.of("Promise 11", "A ROW, the TAPE is empty then: how many were told.");
        HyphenWar x = new HyphenWar();
        Due.tape(x, "\0\0\1\1\7c\2\0\1");
        bounds.are("row()", new long[] {x.row(), x.count(4), x.at(0, 1), x.at(7, 2), x.status()}, 2, 0, 1, 99, 0);
        Due.tape(x, "\0\0d");
        bounds.are("row() of a stroke alone", new long[] {x.row(), x.count(4), x.at(0, 1), x.status()}, 0, 0, 1, 0);
        bounds.of("Promise 11", "-6 the TAPE is empty.");
        bounds.refused(x, "row() of nothing", y -> y.row(), -6);
        x.feed(0, 0, 0, 0, 0);
        x.end(0);
        bounds.refused(x, "row() behind end(0)", y -> y.row(), -6);
        x.pass();
        bounds.refused(x, "row() of nothing", y -> y.row(), -6);
        bounds.are("MEN, what can be undone", new long[] {x.at(0, 1), x.count(3)}, 1, 1);
    }

    private static void strokes() {
        bounds.of("Promise 12", "How many STROKES the latest row() had that was not REFUSED (0 ahead of any).");
        HyphenWar x = new HyphenWar();
        bounds.is("strokes() ahead of any", x.strokes(), 0);
        x.row();
        bounds.is("strokes() behind one refused", x.strokes(), 0);
        Due.tape(x, "\2\0\0\0\10\0\0\0d\0");
        bounds.are("row(), strokes()", new long[] {x.row(), x.strokes()}, 0, 4);
        x.row();
        bounds.is("strokes() behind one refused", x.strokes(), 4);
        Due.law(x, "\2");
        bounds.is("strokes() behind law()", x.strokes(), 4);
        Due.tape(x, "\0\0\0");
        bounds.are("row(), strokes(): none", new long[] {x.row(), x.strokes()}, 1, 0);
        Due.tape(x, "d".repeat(400));
        bounds.are("row(), strokes(): the most", new long[] {x.row(), x.strokes()}, 0, 134);
    }

    private static void texts() {
        law();
        orders();
        fault();
        stopped();
        force();
    }

    private static void law() {
        bounds.of("Promise 13", "The TAPE, which is empty then, becomes a LAW: its number.");
        HyphenWar x = new HyphenWar();
        for (int i = 0; i < 6; i++) {
            Due.tape(x, "costs 1" + i);
            bounds.are("law()", new long[] {x.law(), x.count(4), x.count(2), x.fault(), x.status()}, i, 0, i + 1, -1, 0);
        }
        bounds.are("compare()", new long[] {x.compare(0), x.compare(5)}, 160, 240);
        bounds.of("Promise 13", "-5 (ahead of reading it; the TAPE is empty then, too);");
        Due.orders(x, "pass pass");
        Due.tape(x, "bars bars bars");
        bounds.refused(x, "law(), the seventh", y -> y.law(), -5);
        bounds.are("TAPE, FAULT, LAWS", new long[] {x.count(4), x.fault(), x.count(2)}, 0, 5, 6);
        Due.tape(x, "costs 16");
        bounds.refused(x, "law(), the seventh", y -> y.law(), -5);
        bounds.are("TAPE, FAULT, LAWS", new long[] {x.count(4), x.fault(), x.count(2)}, 0, 5, 6);
        bounds.refused(x, "law() of nothing, the seventh", y -> y.law(), -5);
        bounds.of("Promise 13", "-6 (blanks alone: FAULT at the end).");
        HyphenWar z = new HyphenWar();
        bounds.refused(z, "law() of nothing", y -> y.law(), -6);
        bounds.is("fault()", z.fault(), 0);
        for (int n : new int[] {1, 20, 399, 400}) {
            Due.tape(z, " ".repeat(n));
            bounds.refused(z, "law() of " + n + " blanks", y -> y.law(), -6);
            bounds.are("FAULT, TAPE, LAWS", new long[] {z.fault(), z.count(4), z.count(2)}, n, 0, 0);
        }
        Due.tape(z, "costs 1x");
        bounds.refused(z, "law() of a fault", y -> y.law(), -6);
        bounds.are("FAULT, TAPE, LAWS", new long[] {z.fault(), z.count(4), z.count(2)}, 7, 0, 0);
        bounds.is("law(), the first", Due.law(z, "costs 1"), 0);
    }

    private static void orders() {
        bounds.of("Promise 14", "ORDERS, the TAPE is empty then: how many were run.");
        HyphenWar x = new HyphenWar();
        Due.tape(x, "pass times 20;pass if day<20;show 0 to 0");
        bounds.are("orders()", new long[] {x.orders(), x.count(4), x.count(11), x.status(), x.stopped()}, 21, 0, 20, 0, -1);
        Due.tape(x, "pass if 1=2");
        bounds.are("orders() of which none is run", new long[] {x.orders(), x.count(4), x.count(11), x.status()}, 0, 0, 20, 0);
        bounds.is("orders(), the most", Due.orders(x, "show 0 to 0 times 20;".repeat(11) + "show 0 to 0 times 20"), 240);
        bounds.of("Promise 14", "-3 one can't be;");
        Due.tape(x, "pass;attack 0 at 0");
        bounds.refused(x, "orders()", y -> y.orders(), -3);
        bounds.are("TAPE, DAY, FAULT", new long[] {x.count(4), x.count(11), x.fault()}, 0, 20, -1);
        // by -3, too, where the call itself would be refused by -1
        Due.tape(x, "pass;show 8 to 0");
        bounds.refused(x, "orders()", y -> y.orders(), -3);
        Due.tape(x, "pass;show 0 to 1/0");
        bounds.refused(x, "orders()", y -> y.orders(), -3);
        bounds.is("DAY", x.count(11), 20);
        bounds.of("Promise 14", "-6 (as for law()).");
        bounds.refused(x, "orders() of nothing", y -> y.orders(), -6);
        bounds.is("fault()", x.fault(), 0);
        for (int n : new int[] {1, 20, 399, 400}) {
            Due.tape(x, " ".repeat(n));
            bounds.refused(x, "orders() of " + n + " blanks", y -> y.orders(), -6);
            bounds.are("FAULT, TAPE", new long[] {x.fault(), x.count(4)}, n, 0);
        }
        Due.tape(x, "pass;pass;x");
        bounds.refused(x, "orders() of a fault", y -> y.orders(), -6);
        bounds.are("FAULT, TAPE, DAY", new long[] {x.fault(), x.count(4), x.count(11)}, 10, 0, 20);
    }

    private static void fault() {
        bounds.of("Promise 15", "FAULT of the latest law(), orders() that read a TEXT: its place; NONE without.");
        HyphenWar x = new HyphenWar();
        bounds.is("fault() ahead of any", x.fault(), -1);
        Due.law(x, "bars x");
        bounds.is("fault() of a law", x.fault(), 5);
        Due.orders(x, "x");
        bounds.is("fault() of orders, at 0", x.fault(), 0);
        x.row();
        x.feed(0, 0, 0, 0, 0);
        x.row();
        x.attack(9, 9);
        bounds.is("fault() behind other calls", x.fault(), 0);
        Due.law(x, "bars");
        bounds.is("fault() of a law without", x.fault(), -1);
        Due.law(x, "bars;" + " ".repeat(395));
        bounds.is("fault() at the end of 400", x.fault(), 400);
        Due.orders(x, "attack 0 at 0");
        bounds.is("fault() of orders that can't be", x.fault(), -1);
        for (int i = 1; i < 6; i++) {
            Due.law(x, "bars");
        }
        Due.orders(x, "pass 1");
        Due.law(x, "bars");
        bounds.are("fault() behind a law() that read nothing", new long[] {x.status(), x.fault()}, -5, 5);
    }

    private static void stopped() {
        bounds.of("Promise 16", "Which CLAUSE of the latest orders() could not be.");
        HyphenWar x = new HyphenWar();
        Due.orders(x, "attack 0 at 0");
        bounds.is("stopped(), the first", x.stopped(), 0);
        Due.orders(x, "pass;".repeat(11) + "attack 0 at 0");
        bounds.is("stopped(), the twelfth", x.stopped(), 11);
        Due.orders(x, "pass times 20;pass if 1=2;show 9 to 0;attack 0 at 0");
        bounds.is("stopped(), the first of two", x.stopped(), 2);
        x.terms(0, 989);
        Due.orders(x, "show 0 to 0;pass times 11");
        bounds.is("stopped(), the last time of a clause", x.stopped(), 1);
        x.attack(0, 0);
        Due.law(x, "x");
        x.row();
        bounds.is("stopped() behind other calls", x.stopped(), 1);
        bounds.of("Promise 16", "NONE.");
        bounds.is("stopped() ahead of any", new HyphenWar().stopped(), -1);
        Due.orders(x, "pass times 10");
        bounds.is("stopped() behind orders that were run", x.stopped(), -1);
        Due.orders(x, "attack 0 at 0");
        Due.orders(x, "pass if 1=2");
        bounds.is("stopped() behind orders of which none was run", x.stopped(), -1);
        Due.orders(x, "attack 0 at 0");
        Due.orders(x, "pass x");
        bounds.is("stopped() behind orders that could not be read", x.stopped(), -1);
    }

    private static void force() {
        bounds.of("Promise 17", "A LAW is in FORCE (NONE: none): which was.");
        HyphenWar x = new HyphenWar();
        bounds.are("force(-1), none was", new long[] {x.force(-1), x.status()}, -1, 0);
        for (int i = 0; i < 6; i++) {
            Due.law(x, "costs 2" + i);
        }
        bounds.are("force()", new long[] {x.force(0), x.at(0, 3), x.force(5), x.at(0, 3), x.force(5), x.force(-1), x.at(0, 3), x.force(2), x.count(10)},
                -1, 20, 0, 25, 5, 5, 5, -1, 2);
        bounds.of("Promise 17", "-2.");
        for (int law : new int[] {6, 7, -2, LEAST, MOST}) {
            bounds.refused(x, "force(" + law + ")", y -> y.force(law), -2);
        }
        bounds.are("as it was", new long[] {x.count(10), x.at(0, 3)}, 2, 22);
        bounds.refused(new HyphenWar(), "force(0), no law", y -> y.force(0), -2);
    }

    private static void acts() {
        attack();
        shift();
        show();
        pass();
    }

    private static void attack() {
        bounds.of("Promise 18", "To ATTACK: 1, 0.");
        HyphenWar x = new HyphenWar();
        x.men(0, 0, 2);
        x.men(1, 0, 1);
        x.men(1, 7, 2);
        x.men(0, 7, 2);
        bounds.are("attack()", new long[] {x.attack(0, 0), x.at(0, 0), x.attack(1, 7), x.at(7, 0), x.at(7, 2), x.count(3), x.status()}, 1, 1, 0, 0, 1, 2, 0);
        bounds.of("Promise 18", "-1;");
        int[][] wrong = {{-1, 0}, {2, 0}, {0, -1}, {0, 8}, {LEAST, 0}, {MOST, 0}, {0, LEAST}, {0, MOST}};
        for (int[] w : wrong) {
            bounds.refused(x, "attack(" + w[0] + ", " + w[1] + ")", y -> y.attack(w[0], w[1]), -1);
        }
        bounds.of("Promise 18", "-3.");
        bounds.refused(x, "attack() without men", y -> y.attack(0, 3), -3);
        bounds.force(x, "bars if column=0;costs 46 if column=7");
        bounds.refused(x, "attack(), barred", y -> y.attack(0, 0), -3);
        bounds.refused(x, "attack() for 46 of 45", y -> y.attack(1, 7), -3);
        bounds.are("as it was", new long[] {x.of(0, 0), x.of(1, 0), x.at(0, 0), x.at(7, 2), x.count(3)}, 45, 45, 1, 1, 2);
    }

    private static void shift() {
        bounds.of("Promise 19", "To SHIFT by -99 .. 99, not 0: how many are left in the COLUMN.");
        HyphenWar x = new HyphenWar();
        x.men(0, 0, 99);
        bounds.are("shift()", new long[] {x.shift(0, 0, 99), x.at(1, 1), x.shift(0, 1, -99), x.at(0, 1), x.shift(0, 0, 1), x.shift(0, 1, -1), x.shift(0, 0, 98), x.count(3), x.status()},
                0, 99, 0, 99, 98, 0, 1, 5, 0);
        bounds.of("Promise 19", "-1 (no COLUMN there, too);");
        x.men(0, 7, 50);
        x.men(0, 0, 50);
        int[][] wrong = {{-1, 3, 1}, {2, 3, 1}, {0, -1, 1}, {0, 8, -1}, {0, 0, 0}, {0, 0, 100}, {0, 7, -100}, {0, 0, -1}, {0, 7, 1}, {0, 0, -50}, {0, 7, 50}, {LEAST, 0, 1},
            {0, LEAST, -1}, {0, MOST, 1}, {0, 0, LEAST}, {0, 0, MOST}, {0, 7, LEAST}};
        for (int[] w : wrong) {
            bounds.refused(x, "shift(" + w[0] + ", " + w[1] + ", " + w[2] + ")", y -> y.shift(w[0], w[1], w[2]), -1);
        }
        bounds.of("Promise 19", "-3.");
        x.men(0, 1, 50);
        bounds.refused(x, "shift() of 51 of 50", y -> y.shift(0, 7, -51), -3);
        bounds.refused(x, "shift() of none", y -> y.shift(0, 4, 1), -3);
        bounds.refused(x, "shift() that makes 100", y -> y.shift(0, 0, 50), -3);
        bounds.are("as it was", new long[] {x.at(0, 1), x.at(1, 1), x.at(7, 1), x.at(6, 1), x.count(3)}, 50, 50, 50, 0, 0);
        bounds.is("shift() that makes 99", x.shift(0, 0, 49), 1);
    }

    private static void show() {
        bounds.of("Promise 20", "To SHOW: how many SIGNS were shown.");
        HyphenWar x = new HyphenWar();
        x.sign(7, 1, 1, 0);
        x.sign(3, 0, 1, 3);
        x.sign(3, 1, 1, 3);
        bounds.are("show()", new long[] {x.show(0, 0), x.show(7, 0), x.show(7, 1), x.show(3, 0), x.show(3, 1), x.count(3), x.status()}, 1, 1, 2, 16, 16, 5, 0);
        bounds.of("Promise 20", "-1.");
        int[][] wrong = {{-1, 0}, {8, 0}, {0, -1}, {0, 2}, {LEAST, 0}, {MOST, 0}, {0, LEAST}, {0, MOST}};
        for (int[] w : wrong) {
            bounds.refused(x, "show(" + w[0] + ", " + w[1] + ")", y -> y.show(w[0], w[1]), -1);
        }
        bounds.is("count(3)", x.count(3), 5);
    }

    private static void pass() {
        bounds.of("Promise 21", "A DAY: its number.");
        HyphenWar x = new HyphenWar();
        bounds.are("pass()", new long[] {x.pass(), x.pass(), x.count(11), x.of(0, 0), x.of(1, 0), x.count(3), x.status()}, 1, 2, 2, 56, 56, 2, 0);
        x.terms(0, 998);
        bounds.is("pass() at 998", x.pass(), 999);
        bounds.of("Promise 21", "-3.");
        bounds.refused(x, "pass() at 999", y -> y.pass(), -3);
        bounds.are("as it was", new long[] {x.count(11), x.of(0, 0), x.of(1, 0), x.count(3)}, 999, 59, 59, 1);
        bounds.are("undo(), pass()", new long[] {x.undo(), x.pass()}, 3, 999);
    }

    private static void undoes() {
        bounds.of("Promise 22", "The latest attack(), shift(), show(), pass() (by ORDERS, too; 16 are kept) is undone: 0 .. 3.");
        HyphenWar x = new HyphenWar();
        x.men(0, 0, 9);
        x.men(1, 0, 4);
        x.sign(0, 1, 0, 5);
        x.attack(0, 0);
        x.shift(0, 0, 2);
        x.show(0, 1);
        x.pass();
        bounds.are("undo() of a day", new long[] {x.undo(), x.count(11), x.of(0, 0), x.of(1, 1), x.count(3)}, 3, 0, 45, 25, 3);
        bounds.are("undo() of a sign", new long[] {x.undo(), x.of(1, 1), x.at(0, 1), x.count(3)}, 2, 20, 7, 2);
        bounds.are("undo() of a shift", new long[] {x.undo(), x.at(0, 1), x.at(1, 1), x.at(0, 0), x.count(3)}, 1, 9, 0, 1, 1);
        bounds.are("undo() of an attack", new long[] {x.undo(), x.at(0, 0), x.at(0, 2), x.of(0, 0), x.count(3), x.status()}, 0, 0, 4, 50, 0, 0);
        sixteen();
        undoneByOrders();
        bounds.of("Promise 22", "-3 there is none (nothing that was ahead of a men(), sign(), terms(), row() that was not REFUSED can be undone).");
        bounds.refused(new HyphenWar(), "undo() ahead of any", y -> y.undo(), -3);
        bounds.refused(x, "undo() behind the first", y -> y.undo(), -3);
        ends();
        doesNotEnd();
    }

    private static void sixteen() {
        HyphenWar x = new HyphenWar();
        for (int n = 1; n <= 40; n++) {
            x.pass();
            bounds.is("count(3)", x.count(3), Math.min(n, 16));
        }
        // the ring goes round: some undone, others done in their place
        for (int i = 0; i < 5; i++) {
            bounds.are("undo()", new long[] {x.undo(), x.count(11), x.count(3)}, 3, 39 - i, 15 - i);
        }
        for (int i = 0; i < 9; i++) {
            x.show(0, 0);
        }
        bounds.is("count(3)", x.count(3), 16);
        for (int i = 0; i < 16; i++) {
            bounds.are("undo()", new long[] {x.undo(), x.count(11), x.count(3)}, i < 9 ? 2 : 3, i < 9 ? 35 : 43 - i, 15 - i);
        }
        bounds.refused(x, "undo() of the seventeenth", y -> y.undo(), -3);
        bounds.is("count(11)", x.count(11), 28);
    }

    private static void undoneByOrders() {
        HyphenWar x = new HyphenWar();
        x.men(0, 0, 9);
        x.show(0, 0);
        Due.orders(x, "attack 0 at 0;shift 0 at 0 by 2;pass times 3");
        bounds.is("count(3)", x.count(3), 6);
        bounds.are("undo() by orders", new long[] {x.undo(), x.undo(), x.undo(), x.undo(), x.at(0, 1), x.undo(), x.at(0, 0), x.undo(), x.undo()}, 3, 3, 3, 1, 9, 0, 0, 2, -3);
        Due.orders(x, "pass times 17");
        bounds.is("count(3), 16 of 17", x.count(3), 16);
        for (int i = 0; i < 16; i++) {
            bounds.is("undo()", x.undo(), 3);
        }
        bounds.are("the first of 17", new long[] {x.undo(), x.count(11)}, -3, 1);
        // what can be undone is as it was ahead of orders that can't be
        x.show(0, 0);
        x.shift(0, 0, 1);
        Due.orders(x, "pass times 20;attack 0 at 7");
        bounds.are("undo()", new long[] {x.count(3), x.undo(), x.undo(), x.undo(), x.count(11)}, 2, 1, 2, -3, 1);
    }

    private static void ends() {
        Bounds.Call[] calls = {x -> x.men(0, 0, 0), x -> x.men(1, 7, 99), x -> x.sign(0, 0, 0, 0), x -> x.sign(0, 0, 1, -1), x -> x.terms(0, 5), x -> x.terms(1, 3), x -> x.terms(2, 0),
            x -> rowOf(x, "\0\0\0"), x -> rowOf(x, "\7")};
        for (int i = 0; i < calls.length; i++) {
            HyphenWar x = new HyphenWar();
            x.pass();
            x.show(0, 0);
            bounds.is("whether call " + i + " is refused", calls[i].on(x) < 0 ? 1 : 0, 0);
            bounds.is("count(3) behind call " + i, x.count(3), 0);
            bounds.refused(x, "undo() behind call " + i, y -> y.undo(), -3);
            // what comes behind it can be
            x.pass();
            bounds.are("undo() behind a day more", new long[] {x.undo(), x.undo()}, 3, -3);
        }
    }

    private static int rowOf(HyphenWar x, String bytes) {
        Due.tape(x, bytes);
        return x.row();
    }

    private static void doesNotEnd() {
        Bounds.Call[] refused = {x -> x.men(0, 0, 100), x -> x.sign(0, 0, 0, 21), x -> x.terms(0, 1000), x -> x.row(), x -> x.attack(0, 0), x -> x.shift(0, 0, 1), x -> x.show(8, 0),
            x -> Due.law(x, "x"), x -> Due.orders(x, "x"), x -> Due.orders(x, "attack 0 at 0"), x -> x.back(0), x -> x.image(2), x -> x.force(9)};
        Bounds.Call[] others = {x -> x.word(0, 0, 0, 1), x -> x.word(0, 0, 1, 1), x -> x.hear(0, 0), x -> x.tell(0, 0), x -> x.forget(), x -> x.force(-1), x -> Due.law(x, "bars"),
            x -> x.decades(1, 1), x -> x.image(0), x -> Due.orders(x, "pass if 1=2"), x -> x.feed(0, 0, 0, 0, 0), x -> x.end(0)};
        for (int i = 0; i < refused.length + others.length; i++) {
            boolean no = i < refused.length;
            Bounds.Call call = no ? refused[i] : others[i - refused.length];
            HyphenWar x = new HyphenWar();
            x.pass();
            x.show(0, 0);
            bounds.is("whether call " + i + " is refused", call.on(x) < 0 && no ? 1 : 0, no ? 1 : 0);
            bounds.are("undo() behind call " + i, new long[] {x.count(3), x.undo(), x.undo(), x.undo(), x.count(11)}, 2, 2, 3, -3, 0);
        }
    }

    private static void prisoners() {
        treaty();
        hear();
        tell();
        forget();
        probably();
        ask();
    }

    private static void treaty() {
        bounds.of("Promise 23", "A TREATY: how many WORDS (what 0), which, as bits (1).");
        HyphenWar x = new HyphenWar();
        x.word(0, 0, 0, 3);
        x.word(7, 1, 0, 3);
        bounds.are("treaty()", new long[] {x.treaty(0), x.treaty(1)}, 2, 129);
        bounds.of("Promise 23", "NONE (none).");
        for (int what : NO_BITS) {
            bounds.is("treaty(" + what + ")", x.treaty(what), -1);
        }
        x.terms(1, 4);
        bounds.are("treaty(), none", new long[] {x.treaty(0), x.treaty(1), x.status()}, -1, -1, 0);
    }

    private static void hear() {
        bounds.of("Promise 24", "HEARD: how often there was.");
        HyphenWar x = new HyphenWar();
        for (int i = 1; i < 8; i++) {
            bounds.are("hear()", new long[] {x.hear(i, i % 2), x.count(0), x.status()}, i, i, 0);
        }
        bounds.of("Promise 24", "-1;");
        int[][] wrong = {{-1, 0}, {8, 0}, {0, -1}, {0, 2}, {LEAST, 0}, {MOST, 0}, {0, LEAST}, {0, MOST}};
        for (int[] w : wrong) {
            bounds.refused(x, "hear(" + w[0] + ", " + w[1] + ")", y -> y.hear(w[0], w[1]), -1);
        }
        bounds.is("hear(), the eighth", x.hear(0, 0), 8);
        bounds.of("Promise 24", "-5.");
        bounds.refused(x, "hear(), the ninth", y -> y.hear(0, 0), -5);
        bounds.are("count(0), hear() behind forget()", new long[] {x.count(0), x.forget(), x.hear(0, 0)}, 8, 8, 1);
    }

    private static void tell() {
        bounds.of("Promise 25", "TEMPER that was changed is TOLD: how often there was.");
        HyphenWar x = new HyphenWar();
        for (int i = 1; i < 6; i++) {
            bounds.are("tell()", new long[] {x.tell(i % 2, i % 2 == 0 ? 20 : -20), x.count(1), x.status()}, i, i, 0);
        }
        bounds.is("of(0, 1): told, not changed", x.of(0, 1), 20);
        bounds.of("Promise 25", "-1;");
        int[][] wrong = {{-1, 0}, {2, 0}, {0, -21}, {0, 21}, {LEAST, 0}, {MOST, 0}, {0, LEAST}, {0, MOST}};
        for (int[] w : wrong) {
            bounds.refused(x, "tell(" + w[0] + ", " + w[1] + ")", y -> y.tell(w[0], w[1]), -1);
        }
        bounds.is("tell(), the sixth", x.tell(0, 0), 6);
        bounds.of("Promise 25", "-5.");
        bounds.refused(x, "tell(), the seventh", y -> y.tell(0, 0), -5);
        bounds.are("count(1), tell() behind forget()", new long[] {x.count(1), x.forget(), x.tell(0, 0)}, 6, 6, 1);
    }

    private static void forget() {
        bounds.of("Promise 26", "HEARD, TOLD are nothing then: how often there was, together.");
        HyphenWar x = new HyphenWar();
        bounds.is("forget() of nothing", x.forget(), 0);
        for (int i = 0; i < 9; i++) {
            x.hear(0, 1);
            x.tell(0, 1);
        }
        x.word(0, 0, 1, 9);
        bounds.are("forget() of all", new long[] {x.which(), x.forget(), x.count(0), x.count(1), x.probably(), x.which(), x.forget()}, 0, 14, 0, 0, 500000, 255, 0);
        bounds.is("status() is another call's", x.status(), 0);
        x.hear(0, 1);
        bounds.is("forget() of one heard", x.forget(), 1);
        x.tell(0, 1);
        bounds.is("forget() of one told", x.forget(), 1);
        x.men(9, 9, 9);
        x.forget();
        bounds.is("status() stays", x.status(), -1);
    }

    private static void probably() {
        bounds.of("Promise 27", "PROBABLY.");
        HyphenWar x = new HyphenWar();
        x.word(0, 0, 1, 10);
        x.word(0, 1, 1, 5);
        bounds.is("probably(), nothing heard", x.probably(), 500000);
        x.hear(0, 1);
        bounds.is("probably(), cut", x.probably(), 666666);
        x.hear(0, 0);
        bounds.is("probably(), 0", x.probably(), 0);
        x.word(0, 1, 1, 10);
        bounds.is("probably(), both 0", x.probably(), 500000);
        x.word(0, 0, 1, 9);
        bounds.are("probably(), all", new long[] {x.probably(), x.status()}, 1000000, 0);
    }

    private static void ask() {
        bounds.of("Promise 28", "To ASK: the WORD (what 0), by how much it differs (1).");
        HyphenWar x = new HyphenWar();
        bounds.are("ask(), all alike", new long[] {x.ask(0), x.ask(1)}, 0, 0);
        x.word(7, 0, 1, 0);
        bounds.are("ask()", new long[] {x.ask(0), x.ask(1)}, 7, 666666);
        x.word(1, 1, 1, 10);
        bounds.are("ask(), 333,333 or 1,000,000", new long[] {x.ask(0), x.ask(1)}, 1, 666667);
        bounds.of("Promise 28", "NONE.");
        for (int what : NO_BITS) {
            bounds.is("ask(" + what + ")", x.ask(what), -1);
        }
        bounds.is("status()", x.status(), 0);
    }

    private static void signsOnPaper() {
        bounds.of("Promise 29", "A CHAIN: how many (what 0), whether one would be shown to a SIDE again (1: 1, 0).");
        HyphenWar x = new HyphenWar();
        x.sign(7, 0, 1, 7);
        bounds.are("chain()", new long[] {x.chain(0, 0, 0), x.chain(0, 0, 1), x.chain(7, 0, 0), x.chain(7, 0, 1), x.chain(7, 1, 0)}, 1, 0, 2, 0, 1);
        x.sign(7, 1, 1, 7);
        bounds.are("chain()", new long[] {x.chain(7, 0, 0), x.chain(7, 0, 1), x.chain(7, 1, 0), x.chain(7, 1, 1)}, 2, 1, 2, 1);
        bounds.of("Promise 29", "NONE.");
        int[][] none = {{-1, 0, 0}, {8, 0, 0}, {0, -1, 0}, {0, 2, 0}, {0, 0, -1}, {0, 0, 2}, {LEAST, 0, 0}, {0, MOST, 0}, {0, 0, LEAST}, {0, 0, MOST}, {8, 0, 1}, {0, 2, 1}};
        for (int[] n : none) {
            bounds.is("chain(" + n[0] + ", " + n[1] + ", " + n[2] + ")", x.chain(n[0], n[1], n[2]), -1);
        }
        bounds.of("Promise 30", "STILLED: how many (what 0), which, as bits (1).");
        bounds.are("stilled()", new long[] {x.stilled(0), x.stilled(1)}, 1, 128);
        x.sign(7, 1, 1, -1);
        bounds.are("stilled(), none need be", new long[] {x.stilled(0), x.stilled(1)}, 0, 0);
        bounds.of("Promise 30", "NONE.");
        for (int what : NO_BITS) {
            bounds.is("stilled(" + what + ")", x.stilled(what), -1);
        }
        bounds.is("status()", x.status(), 0);
    }

    private static void frontOnPaper() {
        pushed();
        level();
        posts();
        way();
        holds();
        which();
        compare();
    }

    private static void pushed() {
        bounds.of("Promise 31", "PUSHED: how many COLUMNS (what 0), COSTS together (1), which, as bits (2).");
        HyphenWar x = new HyphenWar();
        bounds.are("pushed(), none", new long[] {x.pushed(0, 0), x.pushed(0, 1), x.pushed(0, 2)}, 0, 0, 0);
        x.men(0, 1, 5);
        x.men(0, 7, 1);
        x.men(1, 0, 1);
        bounds.are("pushed()", new long[] {x.pushed(0, 0), x.pushed(0, 1), x.pushed(0, 2), x.pushed(1, 0), x.pushed(1, 1), x.pushed(1, 2)}, 2, 10, 130, 1, 5, 1);
        bounds.of("Promise 31", "NONE.");
        int[][] none = {{-1, 0}, {2, 0}, {0, -1}, {0, 3}, {LEAST, 1}, {MOST, 2}, {0, LEAST}, {0, MOST}};
        for (int[] n : none) {
            bounds.is("pushed(" + n[0] + ", " + n[1] + ")", x.pushed(n[0], n[1]), -1);
        }
        bounds.is("status()", x.status(), 0);
    }

    private static void level() {
        bounds.of("Promise 32", "LEVEL.");
        HyphenWar x = new HyphenWar();
        x.men(1, 0, 8);
        // seven men go from 0: 7 + 6 + 5 + 4 + 3 + 2 + 1
        bounds.are("level()", new long[] {x.level(0), x.level(1)}, 0, 28);
        bounds.of("Promise 32", "NONE.");
        for (int side : NO_BITS) {
            bounds.is("level(" + side + ")", x.level(side), -1);
        }
        bounds.is("status()", x.status(), 0);
    }

    private static void posts() {
        bounds.of("Promise 33", "POSTS with a REACH 0 .. 7: how many (what 0), which, as bits (1).");
        HyphenWar x = new HyphenWar();
        bounds.are("posts(), the least reach, the most", new long[] {x.posts(0, 0), x.posts(0, 1), x.posts(7, 0), x.posts(7, 1)}, 8, 255, 1, 1);
        bounds.of("Promise 33", "NONE.");
        for (int reach : NO_EIGHTS) {
            bounds.are("posts(" + reach + ", ..)", new long[] {x.posts(reach, 0), x.posts(reach, 1)}, -1, -1);
        }
        for (int what : NO_BITS) {
            bounds.are("posts(.., " + what + ")", new long[] {x.posts(0, what), x.posts(7, what)}, -1, -1);
        }
        bounds.is("status()", x.status(), 0);
    }

    private static void way() {
        bounds.of("Promise 34", "A WAY: foes met (what 0), up (1) or down (0) (1), how many COLUMNS are come to (2).");
        HyphenWar x = new HyphenWar();
        x.men(1, 7, 4);
        bounds.are("way()", new long[] {x.way(0, 0, 6, 0), x.way(0, 0, 6, 1), x.way(0, 0, 6, 2), x.way(0, 6, 0, 0), x.way(0, 6, 0, 1), x.way(0, 6, 0, 2)}, 0, 1, 6, 0, 0, 6);
        bounds.are("way(), round the end", new long[] {x.way(1, 6, 0, 0), x.way(1, 6, 0, 1), x.way(1, 6, 0, 2)}, 0, 1, 2);
        bounds.of("Promise 34", "NONE (one COLUMN).");
        for (int c = 0; c < 8; c++) {
            bounds.are("way() to where it begins", new long[] {x.way(0, c, c, 0), x.way(0, c, c, 1), x.way(1, c, c, 2)}, -1, -1, -1);
        }
        int[][] none = {{-1, 0, 1, 0}, {2, 0, 1, 0}, {0, -1, 1, 0}, {0, 8, 1, 0}, {0, 0, -1, 0}, {0, 0, 8, 0}, {0, 0, 1, -1}, {0, 0, 1, 3}, {LEAST, 0, 1, 0}, {0, MOST, 1, 1},
            {0, 0, LEAST, 2}, {0, 0, 1, LEAST}, {0, 0, 1, MOST}};
        for (int[] n : none) {
            bounds.is("way(" + n[0] + ", " + n[1] + ", " + n[2] + ", " + n[3] + ")", x.way(n[0], n[1], n[2], n[3]), -1);
        }
        bounds.is("status()", x.status(), 0);
    }

    private static void holds() {
        bounds.of("Promise 35", "HOLDING n DAYS 0 .. 60.");
        HyphenWar x = new HyphenWar();
        // 0.64 to the 60th is 2.3 of 10 to the 12th; less, as it is cut each time
        bounds.are("holds()", new long[] {x.holds(0), x.holds(1), x.holds(59), x.holds(60)}, 1000000000000L, 640000000000L, heldBy(59), heldBy(60));
        bounds.of("Promise 35", "NONE.");
        bounds.are("holds()", new long[] {x.holds(-1), x.holds(61), x.holds(LEAST), x.holds(MOST), x.status()}, -1, -1, -1, -1, 0);
    }

    private static long heldBy(int days) {
        long left = 1000000000000L;
        for (int i = 0; i < 2 * days; i++) {
            left -= (left * 20 + 99) / 100;
        }
        return left;
    }

    private static void which() {
        bounds.of("Promise 36", "WHICH: SIGNS, as bits.");
        HyphenWar x = new HyphenWar();
        x.sign(0, 0, 0, 20);
        x.sign(7, 0, 0, 20);
        bounds.is("which(), all", x.which(), 255);
        x.tell(0, 20);
        bounds.is("which(), the first and the last", x.which(), 129);
        x.tell(1, 1);
        bounds.are("which(), none", new long[] {x.which(), x.status()}, 0, 0);
    }

    private static void compare() {
        bounds.of("Promise 37", "COMPARED.");
        HyphenWar x = new HyphenWar();
        bounds.is("compare(-1)", x.compare(-1), 80);
        for (int i = 0; i < 6; i++) {
            Due.law(x, "costs " + i);
            bounds.are("compare()", new long[] {x.compare(i), x.compare(-1), x.compare(i + 1)}, 16 * i, 80, -1);
        }
        bounds.of("Promise 37", "NONE (no such LAW).");
        bounds.are("compare()", new long[] {x.compare(6), x.compare(-2), x.compare(LEAST), x.compare(MOST), x.status(), x.count(6)}, -1, -1, -1, -1, 0, 0);
    }

    private static void decadesAndImages() {
        decades();
        drawn();
        image();
        back();
    }

    private static void decades() {
        bounds.of("Promise 38", "DECADES, kept as the latest: how often LINE went on.");
        HyphenWar x = new HyphenWar();
        // seed 5: side 0 attacks at 4 at once
        bounds.are("decades()", new long[] {x.decades(5, 1), x.drawn(4, 0), x.status()}, 0, 0, 0);
        x.men(0, 4, 1);
        bounds.are("decades()", new long[] {x.decades(5, 1), x.drawn(4, 0)}, 1, 1);
        bounds.are("decades(), the latest", new long[] {x.decades(7, 1), x.drawn(4, 0)}, 0, 0);
        for (int i = 0; i < 3; i++) {
            x.attack(0, 4);
        }
        bounds.are("decades(), LINE can't go on", new long[] {x.decades(5, 1), x.drawn(4, 0), x.drawn(0, 3)}, 0, 3, 33);
        bounds.of("Promise 38", "-1.");
        int[][] wrong = {{-1, 1}, {1000001, 1}, {0, 0}, {0, 61}, {0, -1}, {LEAST, 1}, {MOST, 1}, {0, LEAST}, {0, MOST}};
        for (int[] w : wrong) {
            bounds.refused(x, "decades(" + w[0] + ", " + w[1] + ")", y -> y.decades(w[0], w[1]), -1);
        }
        bounds.are("drawn() stays", new long[] {x.drawn(4, 0), x.drawn(0, 3)}, 3, 33);
        bounds.are("decades(), the most of both", new long[] {x.decades(1000000, 60) < 0 ? 1 : 0, x.decades(0, 1)}, 0, 0);
    }

    private static void drawn() {
        bounds.of("Promise 39", "Behind the latest DECADES LINE (what 0), MEN of SIDE 0, 1 (1, 2) in COLUMN k; SUPPLY (3), TEMPER (4) of SIDE k.");
        HyphenWar x = new HyphenWar();
        for (int c = 0; c < 8; c++) {
            x.men(0, c, 20 + c);
            x.men(1, c, 10 + c);
        }
        x.sign(0, 0, 0, 9);
        // seed 5: side 0 attacks at 4, sign 0 to side 0
        x.decades(5, 2);
        for (int c = 0; c < 8; c++) {
            bounds.are("drawn(" + c + ", ..)", new long[] {x.drawn(c, 0), x.drawn(c, 1), x.drawn(c, 2)}, c == 4 ? 1 : 0, 20 + c, c == 4 ? 7 : 10 + c);
        }
        bounds.are("drawn() of sides", new long[] {x.drawn(0, 3), x.drawn(1, 3), x.drawn(0, 4), x.drawn(1, 4)}, 51, 56, 29, 20);
        // as it was then, whatever comes
        x.men(0, 0, 99);
        x.pass();
        bounds.are("drawn() stays", new long[] {x.drawn(0, 1), x.drawn(0, 3)}, 20, 51);
        bounds.of("Promise 39", "NOTHING.");
        HyphenWar y = new HyphenWar();
        y.decades(0, 0);
        for (int what = 0; what < 5; what++) {
            bounds.is("drawn(0, " + what + ") ahead of any", y.drawn(0, what), -1000);
        }
        int[][] nothing = {{-1, 0}, {8, 0}, {-1, 1}, {8, 1}, {-1, 2}, {8, 2}, {-1, 3}, {2, 3}, {-1, 4}, {2, 4}, {7, 3}, {7, 4}, {0, -1}, {0, 5}, {LEAST, 0}, {MOST, 3}, {0, LEAST}, {0, MOST}};
        for (int[] n : nothing) {
            bounds.is("drawn(" + n[0] + ", " + n[1] + ")", x.drawn(n[0], n[1]), -1000);
        }
        bounds.is("status()", x.status(), 0);
    }

    private static void image() {
        bounds.of("Promise 40", "IMAGE k is kept: 0;");
        HyphenWar x = new HyphenWar();
        x.men(0, 0, 1);
        bounds.are("image()", new long[] {x.image(0), x.status(), x.men(0, 0, 2), x.image(1), x.men(0, 0, 3), x.image(1), x.men(0, 0, 4)}, 0, 0, 1, 0, 2, 0, 3);
        bounds.are("back()", new long[] {x.back(0), x.at(0, 1), x.back(1), x.at(0, 1)}, 0, 1, 0, 3);
        bounds.of("Promise 40", "-1.");
        for (int k : NO_BITS) {
            bounds.refused(x, "image(" + k + ")", y -> y.image(k), -1);
        }
        bounds.are("back()", new long[] {x.back(0), x.at(0, 1), x.back(1), x.at(0, 1)}, 0, 1, 0, 3);
    }

    private static void back() {
        bounds.of("Promise 41", "BACK to IMAGE k: 0.");
        HyphenWar x = new HyphenWar();
        x.men(0, 0, 5);
        x.image(0);
        x.men(0, 0, 6);
        bounds.are("back()", new long[] {x.back(0), x.status(), x.at(0, 1), x.back(0), x.at(0, 1)}, 0, 0, 5, 0, 5);
        bounds.of("Promise 41", "-1;");
        x.men(0, 0, 7);
        for (int k : NO_BITS) {
            bounds.refused(x, "back(" + k + ")", y -> y.back(k), -1);
        }
        bounds.is("at(0, 1)", x.at(0, 1), 7);
        bounds.of("Promise 41", "-2 it was not kept.");
        bounds.refused(x, "back(1)", y -> y.back(1), -2);
        bounds.is("at(0, 1)", x.at(0, 1), 7);
        bounds.refused(new HyphenWar(), "back(0)", y -> y.back(0), -2);
        x.image(1);
        bounds.is("back(1)", x.back(1), 0);
    }

    private static void countsAndStatus() {
        counts();
        refusals();
        status();
    }

    private static void counts() {
        bounds.of("Promise 42", "0 HEARD, 1 TOLD, 2 LAWS, 3 how many can be undone, 4 bytes of the TAPE,");
        HyphenWar x = new HyphenWar();
        bounds.are("count(), new", new long[] {x.count(0), x.count(1), x.count(2), x.count(3), x.count(4)}, 0, 0, 0, 0, 0);
        for (int i = 0; i < 20; i++) {
            x.hear(0, 0);
            x.tell(0, 0);
            Due.law(x, "bars if day>99");
            x.pass();
        }
        for (int i = 0; i < 21; i++) {
            x.feed(0, 0, 0, 0, 0);
        }
        bounds.are("count(), the most", new long[] {x.count(0), x.count(1), x.count(2), x.count(3), x.count(4)}, 8, 6, 6, 16, 400);
        bounds.of("Promise 42", "10 the LAW in FORCE, 11 .. 13 TERMS 0 .. 2.");
        bounds.are("count()", new long[] {x.count(10), x.count(11), x.count(12), x.count(13)}, -1, 20, 3, 0);
        x.force(5);
        x.terms(0, 999);
        x.terms(1, 40);
        x.terms(2, 9);
        bounds.are("count(), the most", new long[] {x.count(10), x.count(11), x.count(12), x.count(13)}, 5, 999, 40, 9);
        bounds.of("Promise 42", "NONE for others.");
        for (int what : new int[] {-1, 14, 15, LEAST, LEAST + 11, MOST, -11}) {
            bounds.is("count(" + what + ")", x.count(what), -1);
        }
        bounds.is("status()", x.status(), 0);
    }

    private static void refusals() {
        bounds.of("Promise 42", "5 .. 9 how many calls were REFUSED by -1, -2, -3, -5, -6 (IMAGES do not keep that),");
        HyphenWar x = new HyphenWar();
        bounds.are("count(), new", new long[] {x.count(5), x.count(6), x.count(7), x.count(8), x.count(9)}, 0, 0, 0, 0, 0);
        for (int i = 0; i < 10; i++) {
            x.hear(0, 0);
        }
        x.image(0);
        x.men(9, 9, 9);
        x.back(9);
        x.image(9);
        x.back(1);
        x.undo();
        x.orders();
        x.law();
        x.row();
        Due.orders(x, "attack 9 at 9");
        bounds.are("count()", new long[] {x.count(5), x.count(6), x.count(7), x.count(8), x.count(9)}, 3, 1, 2, 2, 3);
        x.back(0);
        bounds.are("count() behind back()", new long[] {x.count(5), x.count(6), x.count(7), x.count(8), x.count(9)}, 3, 1, 2, 2, 3);
        // what is asked is answered by NONE, NOTHING, not refused
        bounds.are("what is asked", new long[] {x.at(9, 9), x.of(9, 9), x.reads(9, 9, 9), x.end(9), x.treaty(9), x.ask(9), x.chain(9, 9, 9), x.stilled(9), x.pushed(9, 9), x.level(9),
            x.posts(9, 9), x.way(9, 9, 9, 9), x.holds(99), x.compare(9), x.drawn(9, 9), x.count(99)}, -1000, -1, -1000, -1, -1, -1, -1, -1, -1, -1, -1, -1, -1, -1, -1000, -1);
        for (int i = 0; i < 21; i++) {
            x.feed(0, 0, 0, 0, 0);
        }
        bounds.are("count() behind that", new long[] {x.count(5), x.count(6), x.count(7), x.count(8), x.count(9)}, 3, 1, 2, 2, 3);
        for (int i = 0; i < 300; i++) {
            x.show(8, 0);
        }
        bounds.is("count(5)", x.count(5), 303);
    }

    private static void status() {
        bounds.of("Promise 43", "What the latest call of men, sign, word, terms, row, law, orders, force, attack, shift, show, pass, undo, hear, tell, decades, image, back was REFUSED by;");
        Bounds.Call[] refused = {x -> x.men(2, 0, 0), x -> x.sign(8, 0, 0, 0), x -> x.word(8, 0, 0, 0), x -> x.terms(3, 0), x -> x.row(), x -> x.law(), x -> x.orders(), x -> x.force(0),
            x -> x.attack(0, 0), x -> x.shift(0, 0, 1), x -> x.show(8, 0), x -> x.pass(), x -> x.undo(), x -> x.hear(8, 0), x -> x.tell(2, 0), x -> x.decades(0, 0), x -> x.image(2),
            x -> x.back(1)};
        int[] by = {-1, -1, -1, -1, -6, -6, -6, -2, -3, -3, -1, -3, -3, -1, -1, -1, -1, -2};
        for (int i = 0; i < refused.length; i++) {
            HyphenWar x = new HyphenWar();
            x.terms(0, 999);
            bounds.is("status() behind a call that was not refused", x.status(), 0);
            bounds.is("call " + i, refused[i].on(x), by[i]);
            bounds.is("status() behind call " + i, x.status(), by[i]);
            calledBesides(x);
            bounds.is("status() behind calls besides", x.status(), by[i]);
        }
        bounds.of("Promise 43", "0 if it was not, or ahead of any.");
        HyphenWar y = new HyphenWar();
        bounds.is("status() ahead of any", y.status(), 0);
        calledBesides(y);
        bounds.is("status() ahead of any, behind calls besides", y.status(), 0);
        Bounds.Call[] fine = {x -> x.men(0, 0, 9), x -> x.sign(0, 0, 0, 1), x -> x.word(0, 0, 0, 1), x -> x.terms(0, 5), x -> rowOf(x, "\7"), x -> Due.law(x, "bars if day>9"),
            x -> Due.orders(x, "pass if 1=2"), x -> x.force(-1), x -> x.attack(0, 0), x -> x.shift(0, 0, 1), x -> x.show(0, 0), x -> x.pass(), x -> x.undo(), x -> x.hear(0, 0),
            x -> x.tell(0, 0), x -> x.decades(0, 1), x -> x.image(0), x -> x.back(0)};
        for (int i = 0; i < fine.length; i++) {
            y.men(9, 9, 9);
            bounds.is("status()", y.status(), -1);
            fine[i].on(y);
            bounds.is("status() behind call " + i, y.status(), 0);
        }
    }

    /** All calls that status() does not name. */
    private static void calledBesides(HyphenWar x) {
        x.at(9, 9);
        x.at(0, 0);
        x.of(9, 9);
        x.reads(9, 9, 9);
        x.feed(0, 0, 0, 0, 0);
        x.end(99);
        x.end(0);
        x.strokes();
        x.fault();
        x.stopped();
        x.treaty(9);
        x.treaty(0);
        x.forget();
        x.probably();
        x.ask(9);
        x.chain(9, 9, 9);
        x.stilled(9);
        x.pushed(9, 9);
        x.level(9);
        x.posts(9, 9);
        x.way(9, 9, 9, 9);
        x.holds(99);
        x.which();
        x.compare(9);
        x.drawn(9, 9);
        x.count(99);
        x.count(5);
        x.status();
    }
}

/** Promises 5 to 8 and 23 to 30: signs, words, terms, prisoners and chains. */
public final class SignsAndWordsTest {
    private static final Due DUE = new Due();

    public static void main(String[] args) {
        signs();
        readsByLaw();
        words();
        terms();
        treaties();
        heardAndTold();
        prisoners();
        asking();
        chains();
        stilled();
        DUE.end();
    }

    private static void signs() {
        HyphenWar x = new HyphenWar();
        DUE.is(5, "sign(7, 1, 0, -20)", x.sign(7, 1, 0, -20), 0);
        DUE.is(5, "sign(7, 0, 0, 20)", x.sign(7, 0, 0, 20), 0);
        DUE.is(5, "sign(7, 1, 1, 7)", x.sign(7, 1, 1, 7), 0);
        DUE.is(5, "sign(0, 0, 1, 0)", x.sign(0, 0, 1, 0), 0);
        DUE.is(6, "reads(7, 1, 0)", x.reads(7, 1, 0), -20);
        DUE.is(6, "reads(7, 0, 0)", x.reads(7, 0, 0), 20);
        DUE.is(6, "reads(7, 1, 1)", x.reads(7, 1, 1), 7);
        DUE.is(6, "reads(7, 0, 1)", x.reads(7, 0, 1), -1);
        DUE.is(6, "reads(0, 0, 1)", x.reads(0, 0, 1), 0);
        int[][] wrong = {{-1, 0, 0, 0}, {8, 0, 0, 0}, {7, -1, 0, 0}, {7, 2, 0, 0}, {7, 1, -1, 0}, {7, 1, 2, 0}, {7, 1, 0, 21}, {7, 1, 0, -21},
            {7, 1, 1, 8}, {7, 1, 1, -2}};
        for (int[] w : wrong) {
            DUE.is(5, "sign of a wrong number", x.sign(w[0], w[1], w[2], w[3]), -1);
            DUE.is(5, "status()", x.status(), -1);
        }
        DUE.is(5, "reads(7, 1, 0)", x.reads(7, 1, 0), -20);
        DUE.is(5, "sign(7, 1, 1, -1)", x.sign(7, 1, 1, -1), 0);
        DUE.is(5, "reads(7, 1, 1)", x.reads(7, 1, 1), -1);
        int[][] nothing = {{-1, 0, 0}, {8, 0, 0}, {0, -1, 0}, {0, 2, 1}, {0, 0, -1}, {0, 0, 2}};
        for (int[] n : nothing) {
            DUE.is(6, "reads of what is not there", x.reads(n[0], n[1], n[2]), -1000);
        }
    }

    private static void readsByLaw() {
        HyphenWar x = new HyphenWar();
        x.sign(2, 0, 0, 4);
        x.men(0, 0, 30);
        x.terms(0, 12);
        x.terms(2, 6);
        DUE.inForce(x, "reads column + line + men + foes if sign = 0;reads sign * 10 if sign > 2;reads 0 - supply if sign = 1;"
                + "reads day + mood if sign = 3;reads temper - side if sign = 4");
        DUE.is(6, "reads(0, 0, 0): the four words are -1", x.reads(0, 0, 0), -4);
        DUE.is(6, "reads(1, 1, 0): the nearest", x.reads(1, 1, 0), -20);
        DUE.is(6, "reads(2, 0, 0): none holds", x.reads(2, 0, 0), 4);
        DUE.is(6, "reads(3, 0, 0): the last one", x.reads(3, 0, 0), 18);
        DUE.is(6, "reads(4, 1, 0)", x.reads(4, 1, 0), 19);
        DUE.is(6, "reads(5, 1, 0): the nearest", x.reads(5, 1, 0), 20);
        x.force(-1);
        DUE.is(6, "reads(3, 0, 0)", x.reads(3, 0, 0), 0);
    }

    private static void words() {
        HyphenWar x = new HyphenWar();
        x.pass();
        DUE.is(7, "word(7, 1, 0, 9)", x.word(7, 1, 0, 9), 0);
        DUE.is(7, "word(7, 0, 0, -9)", x.word(7, 0, 0, -9), 0);
        DUE.is(7, "word(7, 0, 0, 9)", x.word(7, 0, 0, 9), 0);
        DUE.is(7, "treaty(1)", x.treaty(1), 128);
        DUE.is(7, "word(0, 0, 1, 10)", x.word(0, 0, 1, 10), 0);
        DUE.is(7, "word(0, 1, 1, 0)", x.word(0, 1, 1, 0), 0);
        x.hear(0, 1);
        DUE.is(7, "probably()", x.probably(), 1000000);
        int[][] wrong = {{-1, 0, 0, 0}, {8, 0, 0, 0}, {7, -1, 0, 0}, {7, 2, 0, 0}, {7, 1, -1, 0}, {7, 1, 2, 0}, {7, 1, 0, 10}, {7, 1, 0, -10},
            {7, 1, 1, 11}, {7, 1, 1, -1}};
        for (int[] w : wrong) {
            DUE.is(7, "word of a wrong number", x.word(w[0], w[1], w[2], w[3]), -1);
            DUE.is(7, "status()", x.status(), -1);
        }
        DUE.is(7, "treaty(1)", x.treaty(1), 128);
        DUE.is(7, "undo() behind words", x.undo(), 3);
    }

    private static void terms() {
        HyphenWar x = new HyphenWar();
        int[][] good = {{0, 999, 0}, {0, 0, 999}, {0, 17, 0}, {1, 40, 3}, {1, 1, 40}, {2, 9, 0}, {2, 0, 9}, {2, 4, 0}};
        for (int[] g : good) {
            DUE.is(8, "terms(" + g[0] + ", " + g[1] + ")", x.terms(g[0], g[1]), g[2]);
        }
        int[][] wrong = {{-1, 1}, {3, 1}, {0, -1}, {0, 1000}, {1, 0}, {1, 41}, {2, -1}, {2, 10}};
        for (int[] w : wrong) {
            DUE.is(8, "terms(" + w[0] + ", " + w[1] + ")", x.terms(w[0], w[1]), -1);
            DUE.is(8, "status()", x.status(), -1);
        }
        DUE.is(8, "count(11)", x.count(11), 17);
        DUE.is(8, "count(12)", x.count(12), 1);
        DUE.is(8, "count(13)", x.count(13), 4);
        DUE.is(8, "pass()", x.pass(), 18);
        DUE.inForce(x, "costs mood * 10 + day");
        DUE.is(8, "at(0, 3)", x.at(0, 3), 58);
    }

    private static void treaties() {
        HyphenWar x = new HyphenWar();
        DUE.is(23, "treaty(0): none", x.treaty(0), -1);
        DUE.is(23, "treaty(1): none", x.treaty(1), -1);
        x.word(6, 0, 0, 3);
        x.word(6, 1, 0, 2);
        x.word(5, 0, 0, 4);
        x.word(5, 1, 0, -1);
        x.word(3, 0, 0, 0);
        x.word(3, 1, 0, 1);
        DUE.is(23, "treaty(0)", x.treaty(0), 2);
        DUE.is(23, "treaty(1)", x.treaty(1), 72);
        x.terms(1, 2);
        DUE.is(23, "treaty(1)", x.treaty(1), 64);
        x.word(7, 0, 0, 2);
        x.word(7, 1, 0, 2);
        DUE.is(23, "treaty(1): the lowest of two", x.treaty(1), 64);
        x.word(6, 0, 0, 1);
        DUE.is(23, "treaty(1): fewer ahead of lower", x.treaty(1), 128);
        for (int w = 0; w < 8; w++) {
            x.word(w, 0, 0, 5);
            x.word(w, 1, 0, 5);
        }
        x.terms(1, 40);
        DUE.is(23, "treaty(0): all", x.treaty(0), 8);
        DUE.is(23, "treaty(1): all", x.treaty(1), 255);
        x.terms(1, 36);
        DUE.is(23, "treaty(0)", x.treaty(0), 8);
        DUE.is(23, "treaty(-1)", x.treaty(-1), -1);
        DUE.is(23, "treaty(2)", x.treaty(2), -1);
        DUE.is(23, "status()", x.status(), 0);
    }

    private static void heardAndTold() {
        HyphenWar x = new HyphenWar();
        int[][] wrongHeard = {{-1, 0}, {8, 0}, {0, -1}, {0, 2}};
        for (int i = 1; i <= 8; i++) {
            DUE.is(24, "hear(7, 0)", x.hear(7, i % 2), i);
        }
        DUE.is(24, "hear() of the ninth", x.hear(0, 0), -5);
        for (int[] w : wrongHeard) {
            DUE.is(24, "hear of a wrong number", x.hear(w[0], w[1]), -1);
        }
        DUE.is(24, "count(0)", x.count(0), 8);
        int[][] wrongTold = {{-1, 0}, {2, 0}, {0, -21}, {0, 21}};
        for (int i = 1; i <= 6; i++) {
            DUE.is(25, "tell()", x.tell(i % 2, i < 4 ? -20 : 20), i);
        }
        DUE.is(25, "tell() of the seventh", x.tell(0, 0), -5);
        for (int[] w : wrongTold) {
            DUE.is(25, "tell of a wrong number", x.tell(w[0], w[1]), -1);
        }
        DUE.is(25, "count(1)", x.count(1), 6);
        DUE.is(26, "status() stays behind forget()", x.forget() * 10 + x.status(), 139);
        DUE.is(26, "count(0)", x.count(0), 0);
        DUE.is(26, "count(1)", x.count(1), 0);
        DUE.is(26, "forget()", x.forget(), 0);
        DUE.is(26, "probably()", x.probably(), 500000);
        DUE.is(26, "which()", x.which(), 255);
        DUE.is(24, "hear()", x.hear(0, 1), 1);
        DUE.is(25, "tell()", x.tell(0, 1), 1);
    }

    private static void prisoners() {
        HyphenWar x = new HyphenWar();
        x.word(0, 0, 1, 7);
        x.word(0, 1, 1, 2);
        x.hear(0, 1);
        DUE.is(27, "probably()", x.probably(), 777777);
        x.hear(0, 0);
        DUE.is(27, "probably()", x.probably(), 567567);
        x.word(0, 0, 1, 10);
        DUE.is(27, "probably() by what a word is now", x.probably(), 0);
        x.word(0, 1, 1, 0);
        DUE.is(27, "probably(), both 0", x.probably(), 500000);
        x.word(0, 0, 1, 9);
        DUE.is(27, "probably()", x.probably(), 1000000);
        x.forget();
        x.word(0, 0, 1, 1);
        x.hear(0, 1);
        DUE.is(27, "probably(), one part in all", x.probably(), 1000000);
        x.word(0, 0, 1, 0);
        x.word(0, 1, 1, 1);
        DUE.is(27, "probably(), one part in all", x.probably(), 0);
        x.forget();
        x.word(1, 0, 1, 10);
        x.word(1, 1, 1, 9);
        for (int i = 0; i < 8; i++) {
            x.hear(1, 1);
        }
        // 100,000,000 of 143,046,721
        DUE.is(27, "probably()", x.probably(), 699072);
    }

    private static void asking() {
        HyphenWar x = new HyphenWar();
        DUE.is(28, "ask(0), all alike", x.ask(0), 0);
        DUE.is(28, "ask(1), all alike", x.ask(1), 0);
        x.word(3, 0, 1, 7);
        x.word(5, 1, 1, 2);
        DUE.is(28, "ask(0)", x.ask(0), 5);
        // 5 of 7 are 714,285; 5 of 13 are 384,615; at word 3: 7 of 12 are 583,333, 3 of 8 375,000
        DUE.is(28, "ask(1)", x.ask(1), 329670);
        x.word(3, 0, 1, 8);
        DUE.is(28, "ask(0), the lowest of two", x.ask(0), 3);
        x.word(3, 0, 1, 9);
        DUE.is(28, "ask(0)", x.ask(0), 3);
        // 9 of 14 are 642,857; 1 of 6 166,666
        DUE.is(28, "ask(1)", x.ask(1), 476191);
        x.word(6, 0, 1, 1);
        x.word(6, 1, 1, 5);
        DUE.is(28, "ask(0), the lowest of two", x.ask(0), 3);
        for (int i = 0; i < 8; i++) {
            x.hear(5, 1);
        }
        DUE.is(28, "ask(0) behind all HEARD", x.ask(0), 3);
        // 3,515,625 of 3,516,905 and 390,625 of 391,905
        DUE.is(28, "ask(1) behind all HEARD", x.ask(1), 999636 - 996733);
        DUE.is(28, "count(0)", x.count(0), 8);
        x.forget();
        for (int word = 7; word >= 0; word--) {
            x.word(word, 0, 1, 10);
            x.word(word, 1, 1, 0);
            DUE.is(28, "ask(0)", x.ask(0), word);
            DUE.is(28, "ask(1)", x.ask(1), 1000000);
        }
        DUE.is(28, "ask(-1)", x.ask(-1), -1);
        DUE.is(28, "ask(2)", x.ask(2), -1);
    }

    private static void chains() {
        HyphenWar x = new HyphenWar();
        x.sign(0, 0, 1, 1);
        x.sign(1, 1, 1, 2);
        x.sign(2, 0, 1, 0);
        x.sign(0, 1, 1, 3);
        DUE.is(29, "chain(0, 0, 0)", x.chain(0, 0, 0), 5);
        DUE.is(29, "chain(0, 0, 1)", x.chain(0, 0, 1), 0);
        x.sign(3, 0, 1, 1);
        DUE.is(29, "chain(0, 0, 0)", x.chain(0, 0, 0), 5);
        DUE.is(29, "chain(0, 0, 1)", x.chain(0, 0, 1), 1);
        DUE.is(29, "chain(1, 0, 0)", x.chain(1, 0, 0), 1);
        DUE.is(29, "chain(4, 1, 1)", x.chain(4, 1, 1), 0);
        for (int s = 0; s < 8; s++) {
            x.sign(s, 0, 1, s);
            x.sign(s, 1, 1, (s + 1) % 8);
        }
        DUE.is(29, "chain(3, 1, 0), all of them", x.chain(3, 1, 0), 16);
        DUE.is(29, "chain(3, 1, 1)", x.chain(3, 1, 1), 1);
        int[][] none = {{-1, 0, 0}, {8, 0, 0}, {0, -1, 0}, {0, 2, 0}, {0, 0, -1}, {0, 0, 2}};
        for (int[] n : none) {
            DUE.is(29, "chain of what is not there", x.chain(n[0], n[1], n[2]), -1);
        }
        DUE.is(29, "of(0, 1), on paper", x.of(0, 1), 20);
    }

    private static void stilled() {
        HyphenWar x = new HyphenWar();
        DUE.is(30, "stilled(0)", x.stilled(0), 0);
        DUE.is(30, "stilled(1)", x.stilled(1), 0);
        x.sign(5, 0, 1, 6);
        x.sign(6, 1, 1, 5);
        DUE.is(30, "stilled(1)", x.stilled(1), 32);
        x.sign(6, 0, 1, 7);
        x.sign(7, 1, 1, 6);
        DUE.is(30, "stilled(0), one in both", x.stilled(0), 1);
        DUE.is(30, "stilled(1), one in both", x.stilled(1), 64);
        x.sign(0, 0, 1, 0);
        DUE.is(30, "stilled(1), no answer to it by side 1", x.stilled(1), 64);
        x.sign(0, 1, 1, 0);
        DUE.is(30, "stilled(0)", x.stilled(0), 2);
        DUE.is(30, "stilled(1)", x.stilled(1), 65);
        for (int s = 0; s < 8; s++) {
            x.sign(s, 0, 1, s);
            x.sign(s, 1, 1, s);
        }
        DUE.is(30, "stilled(0), all", x.stilled(0), 8);
        DUE.is(30, "stilled(1), all", x.stilled(1), 255);
        DUE.is(30, "stilled(-1)", x.stilled(-1), -1);
        DUE.is(30, "stilled(2)", x.stilled(2), -1);
    }
}

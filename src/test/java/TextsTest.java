/** Promises 9 to 17: the tape, rows, laws and orders. */
public final class TextsTest {
    private static final Due DUE = new Due();

    public static void main(String[] args) {
        tape();
        rows();
        lawsInNumber();
        lawFaults();
        orderFaults();
        limitsOfTexts();
        sumsAndTests();
        lawWords();
        lawsHold();
        force();
        orders();
        ordersThatCannotBe();
        DUE.end();
    }


    private static void tape() {
        HyphenWar x = new HyphenWar();
        DUE.is(9, "feed()", x.feed(0x00010263, 0x01070a00, 0x05640000, 0xff000000, 0x01000100), 20);
        DUE.is(9, "count(4)", x.count(4), 20);
        DUE.is(10, "end(21)", x.end(21), -1);
        DUE.is(10, "end(-1)", x.end(-1), -1);
        DUE.is(10, "end(20)", x.end(20), 20);
        for (int i = 2; i <= 20; i++) {
            DUE.is(9, "feed()", x.feed(1, 2, 3, 4, 5), 20 * i);
        }
        DUE.is(9, "feed() of too many", x.feed(0, 0, 0, 0, 0), -1);
        DUE.is(9, "count(4)", x.count(4), 400);
        DUE.is(10, "end(381)", x.end(381), 381);
        DUE.is(9, "feed() of one too many", x.feed(0, 0, 0, 0, 0), -1);
        DUE.is(10, "end(380)", x.end(380), 380);
        DUE.is(9, "feed()", x.feed(0, 0, 0, 0, 0), 400);
        DUE.is(10, "end(3)", x.end(3), 3);
        DUE.is(9, "status() is not of feed(), end()", x.status(), 0);
        DUE.is(9, "feed()", x.feed(-1, -1, -1, -1, -1), 23);
        DUE.is(10, "end(0)", x.end(0), 0);
        DUE.is(10, "end(1)", x.end(1), -1);
        // the highest byte of each number comes first
        x.feed(0x636f7374, 0x73203720, 0x69662073, 0x69646520, 0x3d203100);
        x.end(19);
        DUE.is(9, "law()", x.law(), 0);
        x.force(0);
        DUE.is(9, "at(0, 3)", x.at(0, 3), 5);
        DUE.is(9, "at(0, 4)", x.at(0, 4), 7);
    }

    private static void rows() {
        HyphenWar x = new HyphenWar();
        DUE.is(11, "row() of nothing", x.row(), -6);
        DUE.is(12, "strokes()", x.strokes(), 0);
        x.feed(0x00010263, 0x01070a00, 0x05640000, 0xff000000, 0x01000100);
        // 0 1 2, 99 1 7, 10 0 5, 100 0 0, 255 0 0, 0 1 0, 1 0
        DUE.is(11, "row()", x.row(), 2);
        DUE.is(12, "strokes()", x.strokes(), 5);
        DUE.is(11, "at(1, 1)", x.at(1, 1), 0);
        DUE.is(11, "count(4)", x.count(4), 0);
        Due.tape(x, "\0\7c\1\0c\0\0d\0\10\0\2\0\0\1\3\200\0\2\5\0\2\6\0");
        DUE.is(11, "row()", x.row(), 4);
        DUE.is(12, "strokes()", x.strokes(), 5);
        DUE.is(11, "at(7, 1)", x.at(7, 1), 99);
        DUE.is(11, "at(0, 2)", x.at(0, 2), 99);
        DUE.is(11, "at(2, 1), the later one", x.at(2, 1), 6);
        DUE.is(11, "at(3, 2)", x.at(3, 2), 0);
        DUE.is(11, "row() of nothing", x.row(), -6);
        DUE.is(12, "strokes() of the one that was not refused", x.strokes(), 5);
        Due.tape(x, "\1\0");
        DUE.is(11, "row() of a stroke", x.row(), 0);
        DUE.is(12, "strokes()", x.strokes(), 1);
        DUE.is(11, "status()", x.status(), 0);
        Due.tape(x, "\1\0\0");
        DUE.is(11, "row()", x.row(), 1);
        DUE.is(12, "strokes()", x.strokes(), 0);
        DUE.is(11, "at(0, 2)", x.at(0, 2), 0);
    }

    private static void lawsInNumber() {
        HyphenWar x = new HyphenWar();
        DUE.is(13, "law() of a fault", Due.law(x, "bar"), -6);
        for (int i = 0; i < 6; i++) {
            DUE.is(13, "law()", Due.law(x, "bars"), i);
            DUE.is(15, "fault()", x.fault(), -1);
        }
        DUE.is(13, "orders() of a fault", Due.orders(x, "pass pass"), -6);
        DUE.is(15, "fault()", x.fault(), 5);
        Due.tape(x, "x");
        DUE.is(13, "law() of a seventh", x.law(), -5);
        DUE.is(13, "count(4)", x.count(4), 0);
        DUE.is(15, "fault() of what was read", x.fault(), 5);
        DUE.is(13, "law() of a seventh", x.law(), -5);
        DUE.is(13, "count(2)", x.count(2), 6);
    }

    private static void lawFault(String text, int due) {
        HyphenWar x = new HyphenWar();
        DUE.is(13, "law() " + text, Due.law(x, text), due == -1 ? 0 : -6);
        DUE.is(15, "fault() of " + text, x.fault(), due);
        DUE.is(13, "count(4)", x.count(4), 0);
        DUE.is(13, "count(2)", x.count(2), due == -1 ? 1 : 0);
    }

    private static void lawFaults() {
        lawFault("", 0);
        lawFault("   ", 3);
        lawFault(" ;bars", 1);
        lawFault("bars;", 5);
        lawFault("bars; ", 6);
        lawFault("bars;;bars", 5);
        lawFault("bars bars", 5);
        lawFault("  bars  ;  costs  1  ", -1);
        lawFault("costs1if2<3;bars if(1=1)", -1);
        lawFault("Bars", 0);
        lawFault("bar s", 0);
        lawFault("barsz", 0);
        lawFault("barsa", 0);
        lawFault("bars0", 4);
        lawFault("bars9", 4);
        lawFault("bars`", 4);
        lawFault("bars{", 4);
        lawFault("costs 1/", 8);
        lawFault("costs 1:", 7);
        lawFault("barsif 1 = 1", 0);
        lawFault("attack 0 at 0", 0);
        lawFault("pass", 0);
        lawFault("costs", 5);
        lawFault("costs if", 6);
        lawFault("costs -1", 6);
        lawFault("costs 1000", -1);
        lawFault("costs 1001", 6);
        lawFault("costs 0001000", -1);
        lawFault("costs 99999999999999999999999999", 6);
        lawFault("costs 1 +", 9);
        lawFault("costs 1 + * 2", 10);
        lawFault("costs 1 2", 8);
        lawFault("costs (1)", 6);
        lawFault("costs [1", 8);
        lawFault("costs [1)", 8);
        lawFault("costs 1]", 7);
        lawFault("costs [1 < 2]", 9);
        lawFault("costs done", 6);
        lawFault("costs latest", 6);
        lawFault("costs reads", 6);
        lawFault("costs line 3", 11);
        lawFault("costs 1 times 2", 8);
        lawFault("costs 1\n", 7);
        lawFault("costs 1\0", 7);
        lawFault("costs\3771", 5);
        lawFault("bars 1", 5);
        lawFault("bars if", 7);
        lawFault("bars if 1", 9);
        lawFault("bars if 1 =", 11);
        lawFault("bars if 1 = 1 = 1", 14);
        lawFault("bars if 1 == 1", 11);
        lawFault("bars if 1 <> 1", 11);
        lawFault("bars if [1 = 1]", 11);
        lawFault("bars if (1) = 1", 10);
        lawFault("bars if (1 = 1", 14);
        lawFault("bars if (1 = 1]", 14);
        lawFault("bars if 1 = 1)", 13);
        lawFault("bars if not", 11);
        lawFault("bars if not not not (not 1 = 2)", -1);
        lawFault("bars if not and 1 = 1", 12);
        lawFault("bars if 1 = 1 and", 17);
        lawFault("bars if 1 = 1 or or 1 = 1", 17);
        lawFault("bars if 1 = 1 not 1 = 1", 14);
        lawFault("bars if (1 = 1) (1 = 1)", 16);
        lawFault("bars if 1 = 1 if 1 = 1", 14);
        lawFault("bars if [[1]] + 2 * [3 - side] > 7 or not (men < 3 and (foes = 1))", -1);
        lawFault("bars if 1 = 1 andnot 1 = 1", 14);
        lawFault("reads men;feeds 1;costs 2;bars if 1 = 1;bars", -1);
    }

    private static void orderFault(String text, int due) {
        HyphenWar x = new HyphenWar();
        int told = Due.orders(x, text);
        DUE.is(14, "orders() " + text, due == -1 ? Math.min(told + 3, 0) : told, due == -1 ? 0 : -6);
        DUE.is(15, "fault() of " + text, x.fault(), due);
        DUE.is(14, "count(4)", x.count(4), 0);
        if (due != -1) {
            DUE.is(16, "stopped() of " + text, x.stopped(), -1);
        }
    }

    private static void orderFaults() {
        orderFault("", 0);
        orderFault("    ", 4);
        orderFault("pass;", 5);
        orderFault("bars", 0);
        orderFault("pass 1", 5);
        orderFault("attack", 6);
        orderFault("attack 1", 8);
        orderFault("attack at 1", 7);
        orderFault("attack 1 at", 11);
        orderFault("attack 1 by 2", 9);
        orderFault("attack 1 at 2 by 3", 14);
        orderFault("shift 1 at 2", 12);
        orderFault("shift 1 at 2 at 3", 13);
        orderFault("shift 1 at 2 by", 15);
        orderFault("show 1 at 2", 7);
        orderFault("show 1 to", 9);
        orderFault("show 1 to 1 if done = 0 times 2", 24);
        orderFault("pass times", 10);
        orderFault("pass times 0", 11);
        orderFault("pass times 1", -1);
        orderFault("pass times 20", -1);
        orderFault("pass times 21", 11);
        orderFault("pass times 020", -1);
        orderFault("pass times day", 11);
        orderFault("pass times [1]", 11);
        orderFault("pass times 2 times 2", 13);
        orderFault("pass if line 7 = 0", -1);
        orderFault("pass if line 8 = 0", 13);
        orderFault("pass if line = 0", 13);
        orderFault("pass if line", 12);
        orderFault("pass if line day = 0", 13);
        orderFault("pass if line [1] = 0", 13);
        orderFault("pass if supply 1 = 50 and temper 0 = 20", -1);
        orderFault("pass if supply 2 = 50", 15);
        orderFault("pass if temper 2 = 50", 15);
        orderFault("pass if men = 0", 8);
        orderFault("pass if side = 0", 8);
        orderFault("pass if mood = 0", 8);
        orderFault("show latest + 1 to done", -1);
        orderFault("show 0 to 0;show day to [1]times3if latest<0", -1);
    }

    private static void limitsOfTexts() {
        lawFault("bars;".repeat(11) + "bars", -1);
        lawFault("bars;".repeat(12) + "bars", 60);
        lawFault("bars;".repeat(12), 60);
        lawFault("bars;".repeat(12) + "  x", 62);
        lawFault("bars;".repeat(11) + "bars bars", 60);
        orderFault("pass;".repeat(11) + "pass", -1);
        orderFault("pass;".repeat(12) + "pass", 60);
        lawFault("costs " + "1+".repeat(49) + "1", -1);
        lawFault("costs " + "1+".repeat(50) + "1", 106);
        lawFault("costs " + "1+".repeat(49) + "1 if men = 1", 109);
        lawFault("costs 1;" + "costs " + "1+".repeat(49) + "1", 112);
        lawFault("costs " + "1+".repeat(50) + "[1", 107);
        lawFault("costs " + "1+".repeat(49) + "[[men]]", -1);
        orderFault("show " + "1*".repeat(48) + "1 to 0 times 3", -1);
        orderFault("show " + "1*".repeat(47) + "line 7 to 0 times 3", -1);
        orderFault("show " + "1*".repeat(48) + "line 7 to 0 if 1 = 1", 116);
        orderFault("show " + "1*".repeat(48) + "1 to 0 times 3 if 2 = 2", 119);
        lawFault("costs " + "[".repeat(8) + "1" + "]".repeat(8), -1);
        lawFault("costs " + "[".repeat(9) + "1" + "]".repeat(9), 14);
        lawFault("costs " + "[1]+".repeat(20) + "1", -1);
        lawFault("bars if " + "(".repeat(8) + "1=1" + ")".repeat(8), -1);
        lawFault("bars if " + "(".repeat(9) + "1=1" + ")".repeat(9), 16);
        lawFault("bars if " + "(".repeat(5) + "[[[1]]]=1" + ")".repeat(5), -1);
        lawFault("bars if " + "(".repeat(5) + "[[[[1]]]]=1" + ")".repeat(5), 16);
        lawFault("bars if " + "(".repeat(5) + "1=[[[[1]]]]" + ")".repeat(5), 18);
        lawFault("bars if " + "not ".repeat(97) + "1=1", -1);
        lawFault("[".repeat(400), 0);
        lawFault("costs " + "[".repeat(394), 14);
        lawFault("a".repeat(400), 0);
        lawFault("costs " + "0".repeat(393) + "7", -1);
        lawFault("bars" + " ".repeat(396), -1);
        lawFault("bars;" + " ".repeat(395), 400);
    }

    /** What a sum is, by an attack's cost; -1 where it is broken. */
    private static void sum(String text, int due) {
        HyphenWar x = new HyphenWar();
        DUE.inForce(x, "costs 99;costs " + text);
        DUE.is(13, text, x.at(0, 3), due == -1 ? 99 : due);
    }

    /** Whether a test is so, by a bar; what is broken doesn't hold. */
    private static void test(String text, boolean due) {
        HyphenWar x = new HyphenWar();
        DUE.inForce(x, "bars if " + text);
        DUE.is(13, text, x.at(0, 5), due ? 1 : 0);
    }

    private static void sumsAndTests() {
        sum("2 + 3 * 4", 14);
        sum("[2 + 3] * 4", 20);
        sum("10 - 3 - 2", 5);
        sum("40 / 4 / 2", 5);
        sum("40 / [4 / 2]", 20);
        sum("17 % 5 * 3", 6);
        sum("50 + [0 - 7] / 2", 47);
        sum("50 + [0 - 7] % 2", 49);
        sum("50 + 7 % [0 - 2]", 51);
        sum("1 / 0", -1);
        sum("1 % 0", -1);
        sum("0 * [1 / 0]", -1);
        sum("1000 * 1000 * 1000 / 1000 / 1000 / 100", 10);
        sum("[1000 * 1000 * 1000 + 1] / 1000 / 1000 / 100", -1);
        sum("11 + [0 - 1000 * 1000 * 1000] / 1000 / 1000 / 1000", 10);
        sum("[0 - 1000 * 1000 * 1000 - 1] * 0", -1);
        sum("1000 * 1000 * 1000 * 1000 * 0", -1);
        sum("0 - 5", 0);
        sum("98", 98);
        test("1 < 2", true);
        test("2 < 2", false);
        test("3 > 2", true);
        test("2 > 2", false);
        test("2 = 2", true);
        test("2 = 3", false);
        test("not 2 = 3", true);
        test("not not 2 = 3", false);
        test("not not not 2 = 3", true);
        test("not not not not 2 = 3", false);
        test("(2 = 3 or 1 = 1)", true);
        test("((2 = 3 or 1 = 2) or (1 = 1 and 2 = 2 and 3 = 3))", true);
        test("not (2 = 3 or 1 = 1)", false);
        test("not 1 = 1 or 1 = 1", true);
        test("not 1 = 2 and 1 = 2", false);
        test("1 = 1 or 1 = 1 and 1 = 2", true);
        test("(1 = 1 or 1 = 1) and 1 = 2", false);
        test("1 = 2 and 1 = 2 or 1 = 1", true);
        test("1 = 2 or 1 = 2 or 1 = 1", true);
        test("1 = 1 or 1 / 0 = 1", true);
        test("1 / 0 = 1 or 1 = 1", false);
        test("not 1 / 0 = 1", false);
        test("not (1 = 2 and 1 / 0 = 1)", true);
        test("not (1 / 0 = 1 and 1 = 2)", false);
        test("1 = 2 and 1 / 0 = 1 or 1 = 1", true);
        test("1 = 1 and 1 / 0 = 1 or 1 = 1", false);
        test("1 = 1 or 1 = 1 and 1 / 0 = 1", true);
        test("1 = 2 or 1 / 0 = 1 or 1 = 1", false);
        test("1 = 1 / 0", false);
    }

    private static void lawWords() {
        HyphenWar x = new HyphenWar();
        x.men(0, 4, 31);
        x.men(1, 4, 12);
        x.men(1, 6, 40);
        x.attack(0, 4);
        x.sign(0, 1, 0, 3);
        x.show(0, 1);
        x.terms(0, 33);
        x.terms(2, 7);
        String[] words = {"side", "column", "line + 10", "men", "foes", "supply", "temper", "sign + 10", "day", "mood"};
        int[][] costs = {{0, 4, 11, 31, 6, 45, 20, 9, 33, 7}, {1, 4, 11, 6, 31, 50, 23, 9, 33, 7}};
        int[][] feeds = {{0, 9, 9, 31, 9, 45, 20, 9, 33, 7}, {1, 9, 9, 46, 9, 50, 23, 9, 33, 7}};
        int[][] reads = {{0, -1, 9, -1, -1, 15, -10, 12, 3, 7}, {1, -1, 9, -1, -1, 20, -7, 12, 3, 7}};
        x.image(0);
        for (int i = 0; i < words.length; i++) {
            String ten = i == 1 || i == 4 ? words[i] + " + 10" : words[i];
            String less = i == 5 || i == 6 || i == 8 ? words[i] + " - 30" : words[i];
            DUE.inForce(x, "costs " + words[i] + ";feeds " + ten + ";reads " + less + ";bars if " + words[i] + " = " + costs[0][i]);
            for (int side = 0; side < 2; side++) {
                DUE.is(13, "costs " + words[i], x.at(4, 3 + side), costs[side][i]);
                DUE.is(13, "feeds " + ten, x.of(side, 2), feeds[side][i]);
                DUE.is(13, "reads " + less, x.reads(2, side, 0), reads[side][i]);
                DUE.is(13, "bars if " + words[i], x.at(4, 5 + side), costs[side][i] == costs[0][i] ? 1 : 0);
            }
            x.back(0);
        }
    }

    private static void lawsHold() {
        HyphenWar x = new HyphenWar();
        DUE.inForce(x, "costs 1;costs 2 if column < 4;costs 3 / line;costs 4 if 1 / line = 1;costs 6 if column = 2;feeds 7 if day > 0;"
                + "bars if column = 5;bars if column = 6 and 1 / line = 0;feeds 150 if side = 1;costs 0 - 1 if column = 7;costs 100 if column = 6");
        int[] costs = {2, 2, 6, 2, 1, 1, 99, 0};
        for (int c = 0; c < 8; c++) {
            DUE.is(13, "at(" + c + ", 3)", x.at(c, 3), costs[c]);
            DUE.is(13, "at(" + c + ", 5)", x.at(c, 5), c == 5 ? 1 : 0);
        }
        DUE.is(13, "of(0, 2), none holds", x.of(0, 2), 3);
        DUE.is(13, "of(1, 2), the nearest", x.of(1, 2), 99);
        x.pass();
        DUE.is(13, "of(0, 2)", x.of(0, 2), 7);
    }

    private static void force() {
        HyphenWar x = new HyphenWar();
        DUE.is(17, "force(0), no law", x.force(0), -2);
        DUE.is(17, "force(-1)", x.force(-1), -1);
        Due.law(x, "costs 1");
        Due.law(x, "costs 2");
        DUE.is(17, "at(0, 3), none in force", x.at(0, 3), 5);
        DUE.is(17, "force(1)", x.force(1), -1);
        DUE.is(17, "at(0, 3)", x.at(0, 3), 2);
        DUE.is(17, "force(0)", x.force(0), 1);
        DUE.is(17, "at(0, 3)", x.at(0, 3), 1);
        int[] wrong = {2, -2, Integer.MIN_VALUE, Integer.MAX_VALUE};
        for (int w : wrong) {
            DUE.is(17, "force(" + w + ")", x.force(w), -2);
        }
        DUE.is(17, "count(10)", x.count(10), 0);
        DUE.is(17, "force(-1)", x.force(-1), 0);
        DUE.is(17, "count(10)", x.count(10), -1);
        DUE.is(17, "at(0, 3)", x.at(0, 3), 5);
    }

    private static void orders() {
        HyphenWar x = new HyphenWar();
        x.men(0, 3, 20);
        x.men(1, 3, 8);
        x.men(1, 4, 3);
        x.sign(6, 1, 0, 9);
        DUE.is(14, "orders()", Due.orders(x, "attack 0 at 3;shift 0 at 3 by 4;show 6 to 1;pass"), 4);
        DUE.is(14, "LINE", x.at(3, 0), 1);
        DUE.is(14, "MEN", x.at(3, 1), 16);
        DUE.is(14, "MEN", x.at(4, 1), 4);
        DUE.is(14, "TEMPER", x.of(1, 1), 29);
        DUE.is(14, "DAY", x.count(11), 1);
        DUE.is(14, "stopped()", x.stopped(), -1);
        DUE.is(14, "orders() that aren't run", Due.orders(x, "pass if 1 = 2;attack 0 at 9 if 1 / 0 = 0;show 1 / 0 to 0 if 2 = 1"), 0);
        DUE.is(14, "status()", x.status(), 0);
        DUE.is(14, "orders(), asked each time", Due.orders(x, "pass times 20 if day < 5;pass times 3 if done = 4"), 5);
        DUE.is(14, "DAY", x.count(11), 6);
        DUE.is(14, "latest: none", Due.orders(x, "pass if latest = 0 - 1"), 1);
        x.men(0, 0, 5);
        x.men(1, 1, 5);
        x.men(0, 1, 5);
        // line 0 goes on, at 1 they are alike: latest is 1, then 0
        DUE.is(14, "latest", Due.orders(x, "attack 0 at 0;pass if latest = 1;attack 0 at 1;show 6 to 1 if latest = 0;pass if latest = 1"), 4);
        DUE.is(14, "words of orders", Due.orders(x, "pass times 4 if line 3 + line 0 + done * 10 = 2 and supply 0 > supply 1 - 30 and temper 1 = 38 and day = 8"), 1);
        x.image(0);
        DUE.is(14, "SUMS by words", Due.orders(x, "show 0 to 1 if supply 0 = 62;show 0 to 1 if supply 1 = 77;show 0 to 0 if temper 0 = 20;show 0 to 0 if line 1 = 0"), 4);
        x.back(0);
        DUE.is(14, "SUMS by words", Due.orders(x, "show line 3 + 5 to temper 0 / 20;pass if temper 1 = 47 and done = 1"), 2);
        DUE.is(14, "shift by less than 0", Due.orders(x, "shift 1 at 4 by 0 - 2"), 1);
        DUE.is(14, "MEN", x.at(4, 2), 1);
        DUE.is(14, "MEN", x.at(3, 2), 6);
        DUE.is(14, "shift by parts", Due.orders(x, "shift 0 at 7 - 4 by done + 1 times 3"), 3);
        DUE.is(14, "MEN", x.at(3, 1), 10);
        DUE.is(14, "240 at most", Due.orders(x, "show 0 to 0 times 20;".repeat(11) + "show 0 to 0 times 20"), 240);
    }

    private static void ordersThatCannotBe() {
        HyphenWar x = new HyphenWar();
        x.men(0, 0, 10);
        x.men(1, 0, 3);
        x.sign(1, 0, 0, 4);
        x.shift(0, 0, 1);
        String first = "attack 0 at 0;shift 0 at 0 by 2;show 1 to 0;pass;";
        String[] wrong = {"attack 2 at 0", "attack 0 at 8", "attack 0 - 1 at 0", "attack 0 at 7", "shift 0 at 0 by 0", "shift 0 at 0 by 100", "shift 0 at 0 by 50",
            "shift 0 at 0 by 0 - 1", "shift 2 at 0 by 1", "show 8 to 0", "show 0 to 2", "show 1 / 0 to 0", "show 0 to 1 % 0", "shift 0 at 0 by 1000 * 1000 * 1000 * 10",
            "attack 0 at 1000 * 1000 * 1000"};
        for (String w : wrong) {
            DUE.is(14, "orders() .." + w, Due.orders(x, first + w + ";pass"), -3);
            DUE.is(14, "status()", x.status(), -3);
            DUE.is(15, "fault()", x.fault(), -1);
            DUE.is(16, "stopped() .." + w, x.stopped(), 4);
            DUE.is(14, "LINE", x.at(0, 0), 0);
            DUE.is(14, "MEN", x.at(0, 1), 9);
            DUE.is(14, "MEN", x.at(0, 2), 3);
            DUE.is(14, "SUPPLY", x.of(0, 0), 50);
            DUE.is(14, "TEMPER", x.of(0, 1), 20);
            DUE.is(14, "DAY", x.count(11), 0);
            DUE.is(14, "count(3)", x.count(3), 1);
        }
        DUE.is(14, "refused once each", x.count(7), wrong.length);
        DUE.is(14, "refused by no other", x.count(5), 0);
        DUE.is(16, "orders() of a fault", Due.orders(x, "x"), -6);
        DUE.is(16, "stopped()", x.stopped(), -1);
        DUE.is(16, "orders(), the first of them", Due.orders(x, "attack 0 at 7 times 3"), -3);
        DUE.is(16, "stopped()", x.stopped(), 0);
        DUE.is(16, "attack() leaves it", x.attack(0, 0) + x.stopped(), 1);
        DUE.is(16, "orders()", Due.orders(x, "pass times 2"), 2);
        DUE.is(16, "stopped()", x.stopped(), -1);
        x.terms(0, 997);
        DUE.is(16, "orders() that come to the last day", Due.orders(x, "pass;pass times 2"), -3);
        DUE.is(16, "stopped()", x.stopped(), 1);
        DUE.is(16, "DAY", x.count(11), 997);
        DUE.is(16, "orders() up to the last day", Due.orders(x, "pass;pass times 20 if day < 999"), 2);
    }
}

import java.io.IOException;

/** The sentences of "Terms", II: texts, laws and orders, each with a test of its own. */
public final class BoundsOfTextsTest {
    private static final int FINE = HyphenWar.NONE;
    private static final int BROKEN = HyphenWar.NONE;
    private static final String II = "Terms II";
    private static final String[] LAW_WORDS = {"side", "column", "line", "men", "foes", "supply", "temper", "sign", "day", "mood"};
    private static Bounds bounds;

    public static void main(String[] args) throws IOException {
        bounds = new Bounds(II);
        tape();
        tokens();
        clauses();
        tests();
        boths();
        plains();
        sums();
        terms();
        parts();
        fiftyParts();
        eightBrackets();
        faults();
        beyond();
        dividedByZero();
        cut();
        broken();
        onlyIfItMatters();
        sixLaws();
        inForce();
        lawClauses();
        lawWords();
        wordsOfReads();
        wordsOfCostsAndBars();
        wordsOfFeeds();
        clausesThatHold();
        readsNearest();
        costsNearest();
        feedsNearest();
        barred();
        orderClauses();
        whatOrdersTake();
        times();
        orderWords();
        partsAside();
        clauseByClause();
        askedEachTime();
        done();
        latest();
        endsIt();
        bounds.end();
    }

    private static void tape() {
        bounds.of(II, "TEXTS are on a TAPE of at most 400 bytes.");
        HyphenWar x = new HyphenWar();
        bounds.is("law() that ends at the last byte", Due.law(x, " ".repeat(393) + "costs 7"), 0);
        x.force(0);
        bounds.is("at(0, 3)", x.at(0, 3), 7);
        bounds.is("orders() that end at the last byte", Due.orders(x, "pass;" + " ".repeat(391) + "pass"), 2);
        bounds.lawFault("bars" + " ".repeat(395) + "x", 399);
        bounds.lawFault("bars;" + " ".repeat(395), 400);
        // one behind the other, each with its 400 bytes
        HyphenWar z = new HyphenWar();
        String many = "1+".repeat(40);
        for (int i = 0; i < 6; i++) {
            String law = "costs " + many + "1" + i;
            bounds.is("law() of 400 bytes", Due.law(z, law + " ".repeat(400 - law.length())), i);
            bounds.is("compare(" + i + ")", z.compare(i), 16 * (50 + i));
            String orders = "pass times 2;show " + many + "1-41 to [[" + i + "%2]]";
            bounds.is("orders() of 400 bytes", Due.orders(z, orders + " ".repeat(400 - orders.length())), 3);
        }
        HyphenWar y = new HyphenWar();
        for (int i = 1; i <= 20; i++) {
            bounds.is("feed(), time " + i, y.feed(0, 0, 0, 0, 0), 20 * i);
        }
        bounds.is("feed(), beyond 400", y.feed(0, 0, 0, 0, 0), -1);
        bounds.is("count(4)", y.count(4), 400);
    }

    private static void tokens() {
        bounds.of(II, "TOKENS: longest rows of letters a .. z, of digits, single other bytes, any blanks (32) between.");
        bounds.lawFault("costs1if2<3;bars if(1=1)", FINE);
        bounds.lawFault("   costs   1   if   2   <   3   ", FINE);
        // longest rows: one token that is no word, one number of two digits
        bounds.lawFault("barsif 1=1", 0);
        bounds.lawFault("abars", 0);
        bounds.lawFault("zbars", 0);
        bounds.lawFault("barsa", 0);
        bounds.lawFault("barsz", 0);
        bounds.lawFault("bar s", 0);
        bounds.lawFault("costs 1 2", 8);
        bounds.sum("12", 12);
        bounds.sum("90", 90);
        bounds.sum("09", 9);
        bounds.lawFault("costs 1a", 7);
        bounds.lawFault("costs men1", 9);
        // bytes next to a .. z, to digits and to the blank, and capital letters, are single bytes
        int[] single = {0, 9, 10, 31, 33, '/', ':', '@', 'A', 'Z', '`', '{', 127, 128, 160, 255};
        for (int c : single) {
            bounds.lawFault("bars" + (char) c, 4);
            bounds.lawFault((char) c + "bars", 0);
            bounds.lawFault("costs 1" + (char) c + "1", c == '/' ? FINE : 7);
        }
        bounds.lawFault("bars if 1 <= 2", 11);
        bounds.lawFault("bars if ((1=2))", FINE);
        bounds.lawFault("bars;;", 5);
    }

    private static void clauses() {
        bounds.of(II, "Of both languages: CLAUSE {\";\" CLAUSE}, 12 at most (FAULT at the 13th's first TOKEN).");
        bounds.lawFault("bars", FINE);
        bounds.lawFault("bars;", 5);
        bounds.lawFault(";bars", 0);
        bounds.lawFault("bars;;bars", 5);
        bounds.lawFault("bars;".repeat(11) + "bars", FINE);
        bounds.lawFault("bars;".repeat(12) + "bars", 60);
        bounds.lawFault("bars;".repeat(12) + "   bars", 63);
        bounds.lawFault("bars;".repeat(12) + "  x", 62);
        bounds.lawFault("bars;".repeat(12), 60);
        bounds.lawFault("bars;".repeat(30) + "bars", 60);
        bounds.lawFault("bars;".repeat(11) + "bars bars", 60);
        bounds.orderFault("pass;".repeat(11) + "pass", FINE);
        bounds.orderFault("pass;".repeat(12) + "pass", 60);
        bounds.orderFault("pass;".repeat(12) + " pass", 61);
        bounds.orderFault("pass;".repeat(12), 60);
        HyphenWar x = bounds.under("bars;".repeat(11) + "costs 77");
        bounds.is("at(0, 3), the twelfth", x.at(0, 3), 77);
        bounds.is("orders() of twelve", Due.orders(x, "pass;".repeat(11) + "pass"), 12);
        bounds.is("orders() of thirteen: none is run", Due.orders(x, "pass;".repeat(12) + "pass"), -6);
        bounds.is("count(11)", x.count(11), 12);
    }

    private static void tests() {
        bounds.of(II, "TEST: BOTH {\"or\" BOTH}.");
        bounds.test("1=1", 1);
        bounds.test("1=2", 0);
        bounds.test("1=2 or 1=2", 0);
        bounds.test("1=1 or 1=2", 1);
        bounds.test("1=2 or 1=1", 1);
        bounds.test("1=2 or 1=2 or 1=1", 1);
        // "and" binds more
        bounds.test("1=1 or 1=1 and 1=2", 1);
        bounds.test("1=2 and 1=2 or 1=1", 1);
        bounds.test("(1=1 or 1=1) and 1=2", 0);
        bounds.lawFault("bars if or 1=1", 8);
        bounds.lawFault("bars if 1=1 or", 14);
        bounds.lawFault("bars if 1=1 or or 1=1", 15);
        bounds.lawFault("bars if 1=1 1=1", 12);
        bounds.lawFault("bars if", 7);
    }

    private static void boths() {
        bounds.of(II, "BOTH: PLAIN {\"and\" PLAIN}.");
        bounds.test("1=1 and 1=1", 1);
        bounds.test("1=1 and 1=2", 0);
        bounds.test("1=2 and 1=1", 0);
        bounds.test("1=1 and 1=1 and 1=1", 1);
        bounds.test("1=1 and 1=1 and 1=2", 0);
        bounds.lawFault("bars if and 1=1", 8);
        bounds.lawFault("bars if 1=1 and", 15);
        bounds.lawFault("bars if 1=1 and and 1=1", 16);
        bounds.lawFault("bars if 1=1 and or 1=1", 16);
    }

    private static void plains() {
        bounds.of(II, "PLAIN: \"not\" PLAIN | \"(\" TEST \")\" | SUM (\"<\" | \">\" | \"=\") SUM.");
        bounds.test("2<3", 1);
        bounds.test("3<3", 0);
        bounds.test("4<3", 0);
        bounds.test("2>3", 0);
        bounds.test("3>3", 0);
        bounds.test("4>3", 1);
        bounds.test("3=3", 1);
        bounds.test("4=3", 0);
        bounds.test("2=3", 0);
        bounds.test("0-1<0", 1);
        bounds.test("not 1=1", 0);
        bounds.test("not not 1=1", 1);
        bounds.test("not not not 1=1", 0);
        bounds.test("not not not not 1=1", 1);
        // "not" binds most
        bounds.test("not 1=2 and 1=2", 0);
        bounds.test("not 1=1 or 1=1", 1);
        bounds.test("not (1=1 or 1=1)", 0);
        bounds.is("97 times not", bounds.under("bars if " + "not ".repeat(97) + "1=1").at(0, 5), 0);
        bounds.is("96 times not", bounds.under("bars if " + "not ".repeat(96) + "1=1").at(0, 5), 1);
        bounds.lawFault("bars if not", 11);
        bounds.lawFault("bars if ()", 9);
        bounds.lawFault("bars if (1=1", 12);
        bounds.lawFault("bars if (1=1]", 12);
        bounds.lawFault("bars if 1=1)", 11);
        bounds.lawFault("bars if (1)=1", 10);
        bounds.lawFault("bars if [1=1]", 10);
        bounds.lawFault("bars if 1", 9);
        bounds.lawFault("bars if 1=", 10);
        bounds.lawFault("bars if =1", 8);
        bounds.lawFault("bars if 1=1=1", 11);
        bounds.lawFault("bars if 1 not 1=1", 10);
    }

    private static void sums() {
        bounds.of(II, "SUM: TERM {(\"+\" | \"-\") TERM}.");
        bounds.sum("7", 7);
        bounds.sum("10-3-2", 5);
        bounds.sum("10-3+2", 9);
        bounds.sum("10-[3+2]", 5);
        bounds.sum("2+3*4", 14);
        bounds.sum("20-2*4", 12);
        bounds.lawFault("costs +1", 6);
        bounds.lawFault("costs -1", 6);
        bounds.lawFault("costs 1+", 8);
        bounds.lawFault("costs 1+-1", 8);
        bounds.lawFault("costs 1--1", 8);
        bounds.lawFault("costs", 5);
    }

    private static void terms() {
        bounds.of(II, "TERM: PART {(\"*\" | \"/\" | \"%\") PART}.");
        bounds.sum("3*4", 12);
        bounds.sum("40/4/2", 5);
        bounds.sum("40/[4/2]", 20);
        bounds.sum("17%5*3", 6);
        bounds.sum("3*17%5", 1);
        bounds.sum("60/7*7", 56);
        bounds.lawFault("costs *1", 6);
        bounds.lawFault("costs 1*", 8);
        bounds.lawFault("costs 1**1", 8);
        bounds.lawFault("costs 1/", 8);
        bounds.lawFault("costs 1%%1", 8);
    }

    private static void parts() {
        bounds.of(II, "PART: NUMBER (to 1,000) | \"[\" SUM \"]\" | a word, as told.");
        bounds.sum("0", 0);
        bounds.sum("1000-990", 10);
        bounds.lawFault("costs 1000", FINE);
        bounds.lawFault("costs 1001", 6);
        bounds.lawFault("costs 2+1001", 8);
        bounds.lawFault("costs 10000", 6);
        bounds.lawFault("costs 0001000", FINE);
        bounds.lawFault("costs 0001001", 6);
        // beyond what an int and a long hold
        bounds.lawFault("costs 4294967297", 6);
        bounds.lawFault("costs 18446744073709551617", 6);
        bounds.lawFault("costs " + "9".repeat(394), 6);
        bounds.lawFault("costs 1" + "0".repeat(393), 6);
        bounds.sum("0".repeat(384) + "7", 7);
        bounds.orderFault("show 1001 to 0", 5);
        bounds.orderFault("show 1000 to 0", FINE);
        bounds.orderFault("show 0 to 0 if 1001 = 1", 15);
        bounds.sum("[7]", 7);
        bounds.sum("[[7]]", 7);
        bounds.lawFault("costs []", 7);
        bounds.lawFault("costs [1", 8);
        bounds.lawFault("costs [1)", 8);
        bounds.lawFault("costs 1]", 7);
        bounds.lawFault("costs (1)", 6);
        bounds.lawFault("costs ]", 6);
        bounds.lawFault("costs mens", 6);
        bounds.lawFault("costs me", 6);
        bounds.lawFault("costs if", 6);
        bounds.lawFault("costs costs", 6);
    }

    private static void fiftyParts() {
        bounds.of(II, "50 PARTS that are NUMBERS and words (FAULT at the 51st),");
        bounds.sum("1+".repeat(48) + "1", 49);
        bounds.lawFault("costs " + "1+".repeat(49) + "1", FINE);
        bounds.lawFault("costs " + "1+".repeat(50) + "1", 106);
        bounds.lawFault("costs " + "1+".repeat(50) + "men", 106);
        bounds.lawFault("costs " + "1+".repeat(50), 106);
        bounds.lawFault("costs " + "1+".repeat(50) + ";bars", 106);
        bounds.lawFault("costs " + "day+".repeat(49) + "day", FINE);
        bounds.lawFault("costs " + "day+".repeat(50) + "day", 206);
        bounds.lawFault("costs " + "day+".repeat(50) + "1", 206);
        bounds.lawFault("costs " + "[1]+".repeat(49) + "1", FINE);
        bounds.lawFault("costs " + "[1]+".repeat(50) + "[1]", 207);
        bounds.lawFault("costs " + "1+".repeat(47) + "1 if 1=1", FINE);
        bounds.lawFault("costs " + "1+".repeat(48) + "1 if 1=1", 109);
        bounds.lawFault("costs " + "1+".repeat(49) + "1 if 1=1", 109);
        // of the whole text
        bounds.lawFault("costs 1;costs " + "1+".repeat(48) + "1", FINE);
        bounds.lawFault("costs 1;costs " + "1+".repeat(49) + "1", 112);
        bounds.orderFault("show " + "1+".repeat(48) + "1 to 0", FINE);
        bounds.orderFault("show " + "1+".repeat(49) + "1 to 0", 108);
        HyphenWar x = bounds.under("feeds " + "1+".repeat(49) + "1");
        bounds.is("of(0, 2), of fifty", x.of(0, 2), 50);
        HyphenWar y = bounds.under("feeds " + "1+[".repeat(8) + "1*".repeat(41) + "1" + "]".repeat(8));
        bounds.is("of(0, 2), of fifty within brackets", y.of(0, 2), 9);
    }

    private static void eightBrackets() {
        bounds.of(II, "8 brackets of both kinds within one another (FAULT at the 9th) at most.");
        bounds.sum("[".repeat(8) + "7" + "]".repeat(8), 7);
        bounds.lawFault("costs " + "[".repeat(9) + "7" + "]".repeat(9), 14);
        bounds.lawFault("costs " + "[".repeat(394), 14);
        bounds.is("bars", bounds.under("bars if " + "(".repeat(8) + "1=1" + ")".repeat(8)).at(0, 5), 1);
        bounds.lawFault("bars if " + "(".repeat(9) + "1=1" + ")".repeat(9), 16);
        bounds.lawFault("bars if " + "(".repeat(392), 16);
        bounds.lawFault("bars if " + "(".repeat(4) + "[[[[1]]]]=[[[[1]]]]" + ")".repeat(4), FINE);
        bounds.lawFault("bars if " + "(".repeat(5) + "[[[[1]]]]=1" + ")".repeat(5), 16);
        bounds.lawFault("bars if " + "(".repeat(5) + "1=[[[[1]]]]" + ")".repeat(5), 18);
        bounds.lawFault("bars if " + "(".repeat(8) + "[1]=1" + ")".repeat(8), 16);
        bounds.lawFault("bars if " + "not (".repeat(8) + "1=1" + ")".repeat(8), FINE);
        bounds.lawFault("bars if " + "not (".repeat(9) + "1=1" + ")".repeat(9), 52);
        // within one another alone
        bounds.lawFault("costs " + "[1]+".repeat(20) + "[[[[[[[[1]]]]]]]]", FINE);
        bounds.lawFault("bars if " + "(1=1) or ".repeat(20) + "((((((((1=1))))))))", FINE);
        bounds.orderFault("show " + "[".repeat(8) + "1" + "]".repeat(8) + " to " + "[".repeat(8) + "1" + "]".repeat(8), FINE);
        bounds.orderFault("show " + "[".repeat(9) + "1" + "]".repeat(9) + " to 1", 13);
    }

    private static void faults() {
        bounds.of(II, "FAULT: the first TOKEN that can't go on there (the end's: the TEXT's length).");
        bounds.lawFault("", 0);
        bounds.lawFault(" ", 1);
        bounds.lawFault("costs", 5);
        bounds.lawFault("costs   ", 8);
        bounds.lawFault("costs 1 +  ", 11);
        bounds.lawFault("x", 0);
        bounds.lawFault("  x y", 2);
        bounds.lawFault("bars x y", 5);
        bounds.lawFault("costs [1 + 2 x", 13);
        bounds.lawFault("costs 1 if", 10);
        bounds.lawFault("costs 1 if 2", 12);
        bounds.orderFault("", 0);
        bounds.orderFault("   ", 3);
        bounds.orderFault("attack ", 7);
        bounds.orderFault("pass pass", 5);
        // its place is the token's first byte, however long it is
        bounds.lawFault("bars    attack", 8);
        bounds.lawFault("costs 123456", 6);
    }

    private static void beyond() {
        bounds.of(II, "Beyond 1,000,000,000 either way,");
        bounds.sum("1000*1000*1000/1000/1000/100", 10);
        bounds.sum("[1000*1000*1000+1]/1000/1000/100", BROKEN);
        bounds.sum("[1000*1000*1000+1-1]/1000/1000/100", BROKEN);
        bounds.sum("[1000*1000*1000-1+1]/1000/1000/100", 10);
        bounds.sum("20+[0-1000*1000*1000]/1000/1000/100", 10);
        bounds.sum("[0-1000*1000*1000-1]*0", BROKEN);
        bounds.sum("[0-1000*1000*1000-1+1]*0", BROKEN);
        bounds.sum("[0-1000*1000*1000+1-1]*0", 0);
        bounds.sum("1000*1000*1000*1000*0", BROKEN);
        bounds.sum("1000*1000*1000*[0-2]*0", BROKEN);
        // what would wrap around in 32 and in 64 bits
        bounds.sum("4*1000*1000*1000+294*1000*1000+967*1000+297", BROKEN);
        bounds.sum("1000*1000*1000*1000*1000*1000*1000*1000*1000", BROKEN);
        bounds.sum("[256*256*256*256]*[256*256*256*256]", BROKEN);
        bounds.test("1000*1000*1000>0", 1);
        bounds.test("1000*1000*1000+1>0", BROKEN);
        bounds.test("0<1000*1000*1000+1", BROKEN);
        bounds.test("0-1000*1000*1000<0", 1);
        bounds.test("0-1000*1000*1000-1<0", BROKEN);
    }

    private static void dividedByZero() {
        bounds.of(II, "or divided by 0");
        bounds.sum("1/0", BROKEN);
        bounds.sum("0/0", BROKEN);
        bounds.sum("1%0", BROKEN);
        bounds.sum("0%0", BROKEN);
        bounds.sum("0*[1/0]", BROKEN);
        bounds.sum("[1/0]*0", BROKEN);
        bounds.sum("1/[3-3]", BROKEN);
        bounds.sum("5/day", BROKEN);
        bounds.sum("5%line", BROKEN);
        bounds.sum("0/1", 0);
        bounds.sum("0%1", 0);
        bounds.test("1/0=1", BROKEN);
        bounds.test("1=1%0", BROKEN);
        bounds.is("orders() of a sum divided by 0", Due.orders(new HyphenWar(), "show 1/0 to 0"), -3);
    }

    private static void cut() {
        bounds.of(II, "(/ cut towards 0, % what is left then),");
        bounds.sum("7/2", 3);
        bounds.sum("10+[0-7]/2", 7);
        bounds.sum("10+7/[0-2]", 7);
        bounds.sum("10+[0-7]/[0-2]", 13);
        bounds.sum("10+[0-1]/2", 10);
        bounds.sum("7%2", 1);
        bounds.sum("10+[0-7]%2", 9);
        bounds.sum("10+7%[0-2]", 11);
        bounds.sum("10+[0-7]%[0-2]", 9);
        bounds.sum("10+[0-8]%2", 10);
        bounds.sum("3%5", 3);
    }

    private static void broken() {
        bounds.of(II, "a SUM, a TEST is BROKEN");
        bounds.sum("1+[1/0]-[1/0]", BROKEN);
        bounds.sum("[[1/0]]", BROKEN);
        bounds.test("1/0<1", BROKEN);
        bounds.test("1>1/0", BROKEN);
        bounds.test("1/0=1/0", BROKEN);
        bounds.test("not 1/0=1", BROKEN);
        bounds.test("not not 1/0=1", BROKEN);
        bounds.test("((1/0=1))", BROKEN);
    }

    private static void onlyIfItMatters() {
        bounds.of(II, "(\"or\", \"and\" ask what stands behind only if it can still matter).");
        bounds.test("1=1 or 1/0=1", 1);
        bounds.test("1=2 or 1/0=1", BROKEN);
        bounds.test("1/0=1 or 1=1", BROKEN);
        bounds.test("1/0=1 or 1=2", BROKEN);
        bounds.test("1=2 and 1/0=1", 0);
        bounds.test("1=1 and 1/0=1", BROKEN);
        bounds.test("1/0=1 and 1=1", BROKEN);
        bounds.test("1/0=1 and 1=2", BROKEN);
        bounds.test("1=2 or 1=1 or 1/0=1", 1);
        bounds.test("1=1 and 1=2 and 1/0=1", 0);
        bounds.test("1=2 or 1/0=1 or 1=1", BROKEN);
        bounds.test("1=1 and 1/0=1 and 1=2", BROKEN);
        bounds.test("1=1 or 1=1 and 1/0=1", 1);
        bounds.test("1=2 and 1/0=1 or 1=1", 1);
        bounds.test("1=2 and 1/0=1 or 1=2", 0);
        bounds.test("1=2 or 1=2 and 1/0=1", 0);
        bounds.test("(1=1 or 1/0=1) and 1=1", 1);
        bounds.test("not (1=2 and 1/0=1) and 1=1", 1);
        bounds.is("orders()", Due.orders(new HyphenWar(), "pass if 1=1 or 1/0=1;pass if 1/0=1 or 1=1;pass if not (1=2 and 1/0=1)"), 2);
    }

    private static void sixLaws() {
        bounds.of(II, "LAWS, 6 at most;");
        HyphenWar x = new HyphenWar();
        for (int i = 0; i < 6; i++) {
            bounds.is("law(), time " + (i + 1), Due.law(x, "costs 1" + i), i);
        }
        bounds.is("law(), the seventh", Due.law(x, "costs 16"), -5);
        bounds.is("count(2)", x.count(2), 6);
        for (int i = 0; i < 6; i++) {
            bounds.is("compare(" + i + ")", x.compare(i), 16 * (10 + i));
        }
        bounds.is("compare(6)", x.compare(6), -1);
        bounds.is("force(6)", x.force(6), -2);
        bounds.is("force(5)", x.force(5), -1);
        bounds.is("at(0, 3)", x.at(0, 3), 15);
    }

    private static void inForce() {
        bounds.of(II, "one is in FORCE (NONE at first: no CLAUSE):");
        HyphenWar x = new HyphenWar();
        x.sign(0, 0, 0, 4);
        Due.law(x, "costs 1;feeds 2;reads 3;bars");
        Due.law(x, "costs 11;feeds 12;reads 13");
        bounds.are("without one in force", new long[] {x.count(10), x.at(0, 3), x.of(0, 2), x.reads(0, 0, 0), x.at(0, 5)}, -1, 5, 3, 4, 0);
        x.force(0);
        bounds.are("the first in force", new long[] {x.count(10), x.at(0, 3), x.of(0, 2), x.reads(0, 0, 0), x.at(0, 5)}, 0, 1, 2, 3, 1);
        x.force(1);
        bounds.are("the second alone in force", new long[] {x.count(10), x.at(0, 3), x.of(0, 2), x.reads(0, 0, 0), x.at(0, 5)}, 1, 11, 12, 13, 0);
        x.force(-1);
        bounds.are("none in force again", new long[] {x.count(10), x.at(0, 3), x.of(0, 2), x.reads(0, 0, 0), x.at(0, 5)}, -1, 5, 3, 4, 0);
    }

    private static void lawClauses() {
        bounds.of(II, "CLAUSE: ((\"reads\" | \"costs\" | \"feeds\") SUM | \"bars\") [\"if\" TEST].");
        for (String kind : new String[] {"reads", "costs", "feeds"}) {
            bounds.lawFault(kind + " 1", FINE);
            bounds.lawFault(kind + " 1 if 1=1", FINE);
            bounds.lawFault(kind, 5);
            bounds.lawFault(kind + " if 1=1", 6);
            bounds.lawFault(kind + " 1 if", 10);
            bounds.lawFault(kind + " 1 1=1", 8);
            bounds.lawFault(kind + " 1=1", 7);
        }
        bounds.lawFault("bars", FINE);
        bounds.lawFault("bars if 1=1", FINE);
        bounds.lawFault("bars 1", 5);
        bounds.lawFault("bars if 1", 9);
        bounds.lawFault("bars if 1=1 if 1=1", 12);
        bounds.lawFault("bars 1=1", 5);
        bounds.lawFault("bars times 2", 5);
        bounds.lawFault("if 1=1", 0);
        for (String order : new String[] {"attack 0 at 0", "shift 0 at 0 by 1", "show 0 to 0", "pass"}) {
            bounds.lawFault(order, 0);
        }
    }

    private static void lawWords() {
        bounds.of(II, "Words: \"side\" | \"column\" | \"line\" | \"men\" | \"foes\" | \"supply\" | \"temper\" | \"sign\" | \"day\" | \"mood\".");
        for (String word : LAW_WORDS) {
            for (String kind : new String[] {"reads ", "costs ", "feeds ", "bars if 1 = "}) {
                bounds.lawFault(kind + word, FINE);
            }
            bounds.lawFault("costs " + word + "s", 6);
            bounds.lawFault("costs " + word + " 0", 7 + word.length());
        }
        for (String word : new String[] {"done", "latest", "at", "by", "to", "times", "not", "or", "and", "signs", "a", "z"}) {
            bounds.lawFault("costs " + word, 6);
        }
    }

    private static void wordsOfReads() {
        bounds.of(II, "\"reads\" is asked of a SIDE and a SIGN (column, line, men, foes -1),");
        HyphenWar x = everywhere();
        bounds.force(x, "reads column if sign=0;reads line if sign=1;reads men if sign=2;reads foes if sign=3;reads side+5 if sign=4;reads sign if sign>4");
        for (int side = 0; side < 2; side++) {
            for (int s = 0; s < 8; s++) {
                bounds.is("reads(" + s + ", " + side + ", 0)", x.reads(s, side, 0), s < 4 ? -1 : s == 4 ? 5 + side : s);
            }
        }
        bounds.force(x, "reads supply - 40 if side=0;reads temper if side=1;reads day if sign=1;reads mood if sign=2");
        bounds.are("supply, temper, day, mood", new long[] {x.reads(0, 0, 0), x.reads(0, 1, 0), x.reads(1, 0, 0), x.reads(2, 1, 0)}, 5, 19, 12, 9);
    }

    /** Men of both sides in every column, lines, SUPPLY, TEMPER, DAY and MOOD other than at first. */
    private static HyphenWar everywhere() {
        HyphenWar x = new HyphenWar();
        for (int c = 0; c < 8; c++) {
            x.men(0, c, 10 + c);
            x.men(1, c, 18 - c);
        }
        x.attack(0, 7);
        x.attack(1, 0);
        x.sign(7, 1, 0, -1);
        x.show(7, 1);
        x.terms(0, 12);
        x.terms(2, 9);
        return x;
    }

    private static void wordsOfCostsAndBars() {
        bounds.of(II, "\"costs\", \"bars\" of a SIDE and a COLUMN (sign -1; line: as it is, men its own there, foes the other's),");
        // the attacks have left 6 of 11 men of side 1 at 7, 5 of 10 of side 0 at 0
        String[] words = {"sign+10", "line+10", "men", "foes", "side", "column", "supply", "temper", "day", "mood"};
        int[][] at7 = {{9, 11, 17, 6, 0, 7, 45, 20, 12, 9}, {9, 11, 6, 17, 1, 7, 45, 19, 12, 9}};
        int[][] at0 = {{9, 9, 5, 18, 0, 0, 45, 20, 12, 9}, {9, 9, 18, 5, 1, 0, 45, 19, 12, 9}};
        for (int i = 0; i < words.length; i++) {
            HyphenWar x = everywhere();
            bounds.force(x, "costs " + words[i] + ";bars if " + words[i] + "=" + at7[1][i]);
            for (int side = 0; side < 2; side++) {
                bounds.is("costs " + words[i] + " of side " + side + " at 7", x.at(7, 3 + side), at7[side][i]);
                bounds.is("costs " + words[i] + " of side " + side + " at 0", x.at(0, 3 + side), at0[side][i]);
                bounds.is("bars by " + words[i] + " of side " + side + " at 7", x.at(7, 5 + side), at7[side][i] == at7[1][i] ? 1 : 0);
                bounds.is("bars by " + words[i] + " of side " + side + " at 0", x.at(0, 5 + side), at0[side][i] == at7[1][i] ? 1 : 0);
            }
        }
    }

    private static void wordsOfFeeds() {
        bounds.of(II, "\"feeds\" of a SIDE (column, line, foes, sign -1; men: all its MEN).");
        String[] words = {"column+10", "line+10", "foes+10", "sign+10", "men-90", "side", "supply", "temper", "day", "mood"};
        // side 0 has 10 to 17 but five less, side 1 18 to 11 but five less
        int[][] due = {{9, 9, 9, 9, 13, 0, 45, 20, 12, 9}, {9, 9, 9, 9, 21, 1, 45, 19, 12, 9}};
        for (int i = 0; i < words.length; i++) {
            HyphenWar x = everywhere();
            bounds.force(x, "feeds " + words[i]);
            bounds.are("feeds " + words[i], new long[] {x.of(0, 2), x.of(1, 2)}, due[0][i], due[1][i]);
        }
        HyphenWar none = bounds.under("feeds men + 7");
        bounds.is("of(0, 2) without men", none.of(0, 2), 7);
        HyphenWar most = bounds.under("feeds men - 700");
        for (int c = 0; c < 8; c++) {
            most.men(1, c, 99);
        }
        bounds.is("of(1, 2) with 792 men", most.of(1, 2), 92);
    }

    private static void clausesThatHold() {
        bounds.of(II, "A CLAUSE HOLDS, if its \"if\" (if it has one) is so, and neither that nor its SUM is BROKEN.");
        String[] clauses = {"costs 20", "costs 20 if 1=1", "costs 20 if 1=2", "costs 20 if 1/0=1", "costs 20/0", "costs 20/0 if 1=1", "costs 20/0 if 1=2",
            "costs 20 if 1=2 or 1/0=1", "costs 20 if 1=1 or 1/0=1", "costs 20 if not 1/0=1", "feeds 20", "costs 20+1000*1000*1000"};
        int[] due = {20, 20, 30, 30, 30, 30, 30, 30, 20, 30, 30, 30};
        for (int i = 0; i < clauses.length; i++) {
            bounds.is(clauses[i], bounds.under("costs 30;" + clauses[i]).at(0, 3), due[i]);
            bounds.is(clauses[i] + " alone", bounds.under(clauses[i]).at(0, 3), due[i] == 30 ? 5 : 20);
        }
    }

    private static void readsNearest() {
        bounds.of(II, "A SIGN changes TEMPER of a SIDE by what the last \"reads\" that HOLDS tells, -20 .. 20 (else the nearest), as it READS it without;");
        String[] sums = {"19", "20", "21", "1000*1000*1000", "0-19", "0-20", "0-21", "0-1000*1000*1000", "0", "1/0"};
        int[] due = {19, 20, 20, 20, -19, -20, -20, -20, 0, 6};
        for (int i = 0; i < sums.length; i++) {
            HyphenWar x = bounds.under("reads " + sums[i]);
            x.sign(3, 1, 0, 6);
            bounds.is("reads(3, 1, 0) by " + sums[i], x.reads(3, 1, 0), due[i]);
            x.show(3, 1);
            bounds.is("of(1, 1) by " + sums[i], x.of(1, 1), 20 + due[i]);
        }
        HyphenWar x = bounds.under("reads 1;reads 2 if sign<3;reads 3/0;reads 4 if sign=0;costs 9;feeds 9");
        bounds.are("the last that holds", new long[] {x.reads(0, 0, 0), x.reads(1, 0, 0), x.reads(2, 0, 0), x.reads(3, 0, 0)}, 4, 2, 2, 1);
        HyphenWar y = bounds.under("costs 9;feeds 9;bars;reads 9 if sign=7");
        y.sign(6, 0, 0, -8);
        bounds.are("without", new long[] {y.reads(6, 0, 0), y.reads(6, 1, 0), y.reads(7, 0, 0)}, -8, 0, 9);
    }

    private static void costsNearest() {
        bounds.of(II, "an attack COSTS 0 .. 99 of SUPPLY, 5 without;");
        String[] sums = {"0", "0-1", "0-1000*1000*1000", "1", "98", "99", "100", "1000*1000*1000", "1/0"};
        int[] due = {0, 0, 0, 1, 98, 99, 99, 99, 5};
        for (int i = 0; i < sums.length; i++) {
            HyphenWar x = bounds.under("costs " + sums[i] + ";feeds 50");
            x.men(1, 4, 3);
            x.pass();
            bounds.is("at(4, 4) by " + sums[i], x.at(4, 4), due[i]);
            bounds.is("attack(1, 4) by " + sums[i], x.attack(1, 4), 1);
            bounds.is("of(1, 0) by " + sums[i], x.of(1, 0), 100 - due[i]);
        }
        HyphenWar x = bounds.under("costs 1;costs 2 if column<3;costs 3/0;costs 4 if column=0;reads 9;feeds 9");
        bounds.are("the last that holds", new long[] {x.at(0, 3), x.at(1, 3), x.at(2, 4), x.at(3, 4)}, 4, 2, 2, 1);
        HyphenWar y = bounds.under("reads 9;feeds 9;bars");
        bounds.are("without", new long[] {y.at(0, 3), y.at(7, 4)}, 5, 5);
    }

    private static void feedsNearest() {
        bounds.of(II, "a DAY FEEDS a SIDE by 0 .. 99, 3 without;");
        String[] sums = {"0", "0-1", "0-1000*1000*1000", "1", "98", "99", "100", "1000*1000*1000", "1/0"};
        int[] due = {0, 0, 0, 1, 98, 99, 99, 99, 3};
        for (int i = 0; i < sums.length; i++) {
            HyphenWar x = bounds.under("feeds " + sums[i]);
            bounds.are("of() by " + sums[i], new long[] {x.of(0, 2), x.of(1, 2)}, due[i], due[i]);
            x.pass();
            bounds.are("SUPPLY by " + sums[i], new long[] {x.of(0, 0), x.of(1, 0)}, 50 + due[i], 50 + due[i]);
        }
        HyphenWar x = bounds.under("feeds 1;feeds 2 if side=1;feeds 4/0;reads 9;costs 9");
        bounds.are("the last that holds", new long[] {x.of(0, 2), x.of(1, 2)}, 1, 2);
        HyphenWar y = bounds.under("reads 9;costs 9;bars");
        bounds.are("without", new long[] {y.of(0, 2), y.of(1, 2)}, 3, 3);
    }

    private static void barred() {
        bounds.of(II, "a SIDE is BARRED from attacking in a COLUMN, if \"bars\" HOLDS.");
        HyphenWar x = bounds.under("bars if column=0;bars if column=3 and side=1;bars if column=4 and 1/0=1;bars if column=7");
        for (int c = 0; c < 8; c++) {
            x.men(0, c, 1);
            x.men(1, c, 1);
            int first = c == 0 || c == 7 ? 1 : 0;
            int second = c == 3 ? 1 : first;
            bounds.are("at(" + c + ", 5), at(" + c + ", 6)", new long[] {x.at(c, 5), x.at(c, 6)}, first, second);
            bounds.are("attacks at " + c, new long[] {x.attack(0, c), x.attack(1, c)}, first == 1 ? -3 : 0, second == 1 ? -3 : 0);
        }
        bounds.are("bars without an if", new long[] {bounds.under("bars").at(5, 5), bounds.under("bars").at(5, 6)}, 1, 1);
    }

    private static void orderClauses() {
        bounds.of(II, "ORDERS: CLAUSE: (\"attack\" SUM \"at\" SUM | \"shift\" SUM \"at\" SUM \"by\" SUM | \"show\" SUM \"to\" SUM | \"pass\") [\"times\" TIMES] [\"if\" TEST].");
        String[] fine = {"attack 0 at 0", "shift 0 at 0 by 1", "show 0 to 0", "pass"};
        for (String order : fine) {
            int n = order.length();
            bounds.orderFault(order, FINE);
            bounds.orderFault(order + " times 2", FINE);
            bounds.orderFault(order + " if 1=2", FINE);
            bounds.orderFault(order + " times 2 if 1=2", FINE);
            bounds.orderFault(order + " if 1=2 times 2", n + 8);
            bounds.orderFault(order + " times 2 times 2", n + 9);
            bounds.orderFault(order + " if 1=2 if 1=2", n + 8);
            bounds.orderFault(order + " times", n + 6);
            bounds.orderFault(order + " if", n + 3);
            bounds.orderFault(order + " 0", n + 1);
        }
        bounds.orderFault("attack", 6);
        bounds.orderFault("attack at 0", 7);
        bounds.orderFault("attack 0", 8);
        bounds.orderFault("attack 0 to 0", 9);
        bounds.orderFault("attack 0 at", 11);
        bounds.orderFault("attack 0 at 0 by 1", 14);
        bounds.orderFault("shift 0 by 1", 8);
        bounds.orderFault("shift 0 at 0", 12);
        bounds.orderFault("shift 0 at 0 at 0", 13);
        bounds.orderFault("shift 0 at 0 by", 15);
        bounds.orderFault("shift 0 at 0 by 1 at 0", 18);
        bounds.orderFault("show 0 at 0", 7);
        bounds.orderFault("show to 0", 5);
        bounds.orderFault("show 0 to", 9);
        bounds.orderFault("pass 1", 5);
        for (String law : new String[] {"reads 1", "costs 1", "feeds 1", "bars"}) {
            bounds.orderFault(law, 0);
        }
        bounds.is("orders() of all", Due.orders(everywhere(), "attack 0 at 7 times 2 if 1=1;shift 0 at 7 by 1-2;show 0 to 1 times 2;pass if 1=1"), 6);
    }

    private static void whatOrdersTake() {
        bounds.of(II, "(a SIDE, a COLUMN; a SIDE, a COLUMN, men; a SIGN, a SIDE; a DAY.)");
        HyphenWar x = new HyphenWar();
        x.men(1, 0, 9);
        x.men(1, 4, 9);
        x.sign(3, 1, 0, 8);
        bounds.is("orders()", Due.orders(x, "attack 1 at 0;shift 1 at 4 by 3;show 3 to 1;pass"), 4);
        bounds.are("what came of it", new long[] {x.at(0, 0), x.of(1, 0), x.at(4, 2), x.at(5, 2), x.of(1, 1), x.of(0, 1), x.count(11)}, -1, 48, 6, 3, 28, 20, 1);
        String[] wrong = {"attack 2 at 0", "attack 0-1 at 0", "attack 1 at 8", "attack 1 at 0-1", "shift 2 at 4 by 1", "shift 1 at 8 by 0-1", "shift 1 at 4 by 0", "shift 1 at 4 by 100",
            "shift 1 at 4 by 0-100", "shift 1 at 0 by 0-1", "shift 1 at 7 by 1", "show 8 to 0", "show 0-1 to 0", "show 0 to 2", "show 0 to 0-1", "show 1000*1000*1000 to 0",
            "attack 0-1000*1000*1000 at 0", "shift 1 at 4 by 1000*1000*1000"};
        for (String order : wrong) {
            bounds.is(order, Due.orders(x, order), -3);
        }
    }

    private static void times() {
        bounds.of(II, "TIMES: a NUMBER 1 .. 20.");
        bounds.orderFault("pass times 0", 11);
        bounds.orderFault("pass times 1", FINE);
        bounds.orderFault("pass times 20", FINE);
        bounds.orderFault("pass times 21", 11);
        bounds.orderFault("pass times 1001", 11);
        bounds.orderFault("pass times 4294967297", 11);
        bounds.orderFault("pass times 020", FINE);
        bounds.orderFault("pass times 000", 11);
        bounds.orderFault("pass times -1", 11);
        bounds.orderFault("pass times day", 11);
        bounds.orderFault("pass times [1]", 11);
        bounds.orderFault("pass times", 10);
        bounds.orderFault("pass times 1+1", 12);
        HyphenWar x = new HyphenWar();
        bounds.is("pass times 1", Due.orders(x, "pass times 1"), 1);
        bounds.is("pass times 20", Due.orders(x, "pass times 20"), 20);
        bounds.is("count(11)", x.count(11), 21);
    }

    private static void orderWords() {
        bounds.of(II, "Words: \"day\" | \"done\" | \"latest\" | \"line\" C | \"supply\" S | \"temper\" S (C: a NUMBER 0 .. 7, S: 0, 1).");
        for (int c = 0; c < 8; c++) {
            bounds.orderFault("pass if line " + c + "=0", FINE);
        }
        bounds.orderFault("pass if line 8=0", 13);
        bounds.orderFault("pass if line 007=0", FINE);
        bounds.orderFault("pass if line=0", 12);
        bounds.orderFault("pass if line", 12);
        bounds.orderFault("pass if line -1=0", 13);
        bounds.orderFault("pass if line day=0", 13);
        bounds.orderFault("pass if line [0]=0", 13);
        bounds.orderFault("pass if line 4294967296=0", 13);
        for (String word : new String[] {"supply", "temper"}) {
            bounds.orderFault("pass if " + word + " 0=0", FINE);
            bounds.orderFault("pass if " + word + " 1=0", FINE);
            bounds.orderFault("pass if " + word + " 2=0", 15);
            bounds.orderFault("pass if " + word + "=0", 14);
            bounds.orderFault("pass if " + word + " side=0", 15);
        }
        for (String word : new String[] {"day", "done", "latest"}) {
            bounds.orderFault("pass if " + word + "=0", FINE);
            bounds.orderFault("pass if " + word + " 0=0", 9 + word.length());
        }
        for (String word : new String[] {"side", "column", "men", "foes", "sign", "mood", "lines", "times", "if"}) {
            bounds.orderFault("pass if " + word + "=0", 8);
        }
        HyphenWar x = everywhere();
        String so = "pass if day=12;show 0 to 0 if done=1 and latest=0-1;show 0 to 0 if line 7=1 and line 0=0-1 and line 3=0;"
                + "show 0 to 0 if supply 0=48 and supply 1=48 and temper 0=20 and temper 1=19";
        bounds.is("what the words are", Due.orders(x, so), 4);
        HyphenWar y = new HyphenWar();
        for (int c = 0; c < 8; c++) {
            y.men(0, c, 5);
            bounds.is("line " + c, Due.orders(y, "attack 0 at " + c + ";show 0 to 0 if line " + c + "=1;show 0 to 0 if line " + c + "=1"), 3);
        }
        y.sign(1, 0, 0, 7);
        y.show(1, 0);
        bounds.is("supply, temper of each side", Due.orders(y, "pass if supply 0=10 and supply 1=50 and temper 0=27 and temper 1=20"), 1);
    }

    private static void partsAside() {
        bounds.of(II, "C, S, TIMES aside, NUMBERS and words count as PARTS.");
        bounds.orderFault("show " + "1*".repeat(48) + "1 to 0 times 20", FINE);
        bounds.orderFault("show " + "1*".repeat(48) + "1 to line 0 times 20", FINE);
        bounds.orderFault("show " + "1*".repeat(48) + "line 0 to supply 0", FINE);
        bounds.orderFault("show " + "1*".repeat(49) + "line 0 to supply 0", 113);
        bounds.orderFault("show " + "1*".repeat(49) + "1 to temper 1", 108);
        bounds.orderFault("show " + "1*".repeat(48) + "1 to 0 times 3 if 1=1", 119);
        bounds.orderFault("show " + "day*".repeat(48) + "day to 0 times 3", FINE);
        bounds.orderFault("show " + "line 7*".repeat(48) + "day to 0 times 3", FINE);
        bounds.orderFault("show " + "line 7*".repeat(49) + "day to 0 times 3", 355);
        bounds.orderFault("pass times 2;".repeat(11) + "show " + "1*".repeat(48) + "1 to 0", FINE);
    }

    private static void clauseByClause() {
        bounds.of(II, "Run CLAUSE by CLAUSE, each as often as TIMES tell (once without);");
        HyphenWar x = new HyphenWar();
        x.men(0, 0, 10);
        bounds.is("orders()", Due.orders(x, "shift 0 at 0 by 1 times 3;pass;shift 0 at 1 by 3 times 1;show 0 to 0 times 20"), 25);
        bounds.are("men, day", new long[] {x.at(0, 1), x.at(1, 1), x.at(2, 1), x.count(11)}, 7, 0, 3, 1);
        // in this order alone
        HyphenWar y = new HyphenWar();
        y.men(0, 0, 1);
        bounds.is("the second ahead of the first", Due.orders(y, "shift 0 at 1 by 1;shift 0 at 0 by 1"), -3);
        bounds.is("stopped()", y.stopped(), 0);
        bounds.is("the first ahead of the second", Due.orders(y, "shift 0 at 0 by 1;shift 0 at 1 by 1"), 2);
        bounds.is("at(2, 1)", y.at(2, 1), 1);
        // all times of a clause ahead of the next
        HyphenWar z = new HyphenWar();
        bounds.is("orders()", Due.orders(z, "pass times 2;show 0 to 0 times 2 if day=2"), 4);
    }

    private static void askedEachTime() {
        bounds.of(II, "each time its \"if\" is asked (not run, if it is not so or BROKEN), then its SUMS from the left.");
        HyphenWar x = new HyphenWar();
        bounds.is("an if that ends to be so", Due.orders(x, "pass times 20 if day<3"), 3);
        bounds.is("an if that is so later", Due.orders(x, "pass times 2;show 0 to 0 times 3 if done=2"), 3);
        bounds.is("an if that is not so", Due.orders(x, "pass if 1=2"), 0);
        bounds.is("an if that is broken", Due.orders(x, "pass if 1/0=1;pass times 20 if not 1/0=1"), 0);
        bounds.is("an if that is broken at times: day is 5, 6", Due.orders(x, "pass times 3 if 6/[day-6]=0-6"), 1);
        bounds.is("status()", x.status(), 0);
        // sums are not asked where it is not run
        bounds.is("sums that can't be, not run", Due.orders(x, "attack 1/0 at 0 if 1=2;shift 0 at 1/0 by 0 if 1/0=1;show 9 to 9 if done=1"), 0);
        bounds.is("sums asked each time", Due.orders(x, "show done*4 to done times 2"), 2);
        bounds.is("sums asked each time: the third can't be", Due.orders(x, "show done*4 to done times 3"), -3);
        x.men(0, 7, 9);
        bounds.is("a later sum that can't be", Due.orders(x, "shift 0 at 7 by 1/0"), -3);
        bounds.is("a middle sum that can't be", Due.orders(x, "shift 0 at 1/0 by 1"), -3);
        bounds.is("a first sum that can't be", Due.orders(x, "shift 1/0 at 7 by 0-1"), -3);
        bounds.is("sums that can be", Due.orders(x, "shift 0 at 7 by 0-1"), 1);
    }

    private static void done() {
        bounds.of(II, "done: how many were run in this TEXT,");
        HyphenWar x = new HyphenWar();
        bounds.is("0 at first", Due.orders(x, "pass if done=0"), 1);
        bounds.is("0 at first in the next text", Due.orders(x, "pass if done=0;pass if done=1;pass if done=1;pass if done=2"), 3);
        bounds.is("all kinds and all times count", Due.orders(x, "show 0 to 0 times 5;pass times 2;show 0 to 0 if done=7"), 8);
        HyphenWar y = new HyphenWar();
        String most = "show 0 to 0 times 20;".repeat(11);
        bounds.is("240 at most", Due.orders(y, most + "show 0 to 0 times 20 if done>219"), 240);
        bounds.is("240 at most", Due.orders(y, most + "show 0 to 0 times 20 if done=239"), 220);
    }

    private static void latest() {
        bounds.of(II, "latest: what the latest attack in it told (-1: none).");
        HyphenWar x = new HyphenWar();
        x.men(0, 0, 4);
        x.men(0, 1, 4);
        x.men(1, 1, 9);
        bounds.is("none", Due.orders(x, "pass if latest=0-1"), 1);
        bounds.is("1", Due.orders(x, "attack 0 at 0;pass if latest=1"), 2);
        bounds.is("none in the next text", Due.orders(x, "pass if latest=0-1"), 1);
        bounds.is("0", Due.orders(x, "attack 0 at 1;pass if latest=0"), 2);
        bounds.is("the latest of two", Due.orders(x, "attack 0 at 1;attack 0 at 0;pass if latest=1"), 3);
        // what other orders tell does not matter
        bounds.is("attacks alone", Due.orders(x, "shift 0 at 0 by 1;show 0 to 0;pass if latest=0-1"), 3);
        bounds.is("attacks alone", Due.orders(x, "attack 0 at 0;shift 0 at 1 by 1;show 0 to 0;pass times 2 if latest=1"), 5);
        bounds.is("not run, not told", Due.orders(x, "attack 0 at 0 if 1=2;pass if latest=0-1"), 1);
        x.attack(0, 0);
        bounds.is("not by attack() ahead", Due.orders(x, "pass if latest=0-1"), 1);
    }

    private static void endsIt() {
        bounds.of(II, "One that can't be (a BROKEN SUM, as attack(), shift(), show(), pass() are REFUSED) ends it: all is as it was ahead of it.");
        String[] wrong = {"show 1/0 to 0", "attack 0 at 0*[1%0]", "attack 0 at 6", "attack 0 at 8", "attack 1 at 5", "shift 0 at 0 by 99", "shift 0 at 0 by 0", "shift 0 at 7 by 1",
            "show 8 to 0", "show 0 to 2", "pass times 3", "attack 0 at 0 times 20", "shift 0 at 2 by 1"};
        for (String order : wrong) {
            HyphenWar x = new HyphenWar();
            x.men(0, 0, 30);
            x.men(1, 0, 9);
            x.men(1, 5, 3);
            x.men(0, 2, 3);
            x.men(0, 3, 99);
            x.sign(1, 1, 0, 5);
            x.terms(0, 995);
            bounds.force(x, "bars if column=5");
            x.shift(0, 0, 2);
            x.pass();
            String all = Bounds.all(x);
            bounds.is(order, Due.orders(x, "attack 0 at 0;shift 0 at 0 by 5;show 1 to 1 times 2;pass;" + order + ";attack 0 at 0"), -3);
            bounds.is("stopped() by " + order, x.stopped(), 4);
            bounds.is("orders() that run nothing", Due.orders(x, "pass if 1=2"), 0);
            bounds.same("all behind " + order, Bounds.all(x), all);
            bounds.are("undo() behind " + order, new long[] {x.undo(), x.undo(), x.undo()}, 3, 1, -3);
            bounds.is("at(0, 1), undone", x.at(0, 1), 30);
        }
    }
}

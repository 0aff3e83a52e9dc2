import java.util.Random;

/** Runs of calls by draws with a fixed seed: the class must answer as the model does. */
public final class ModelTest {
    private static final String[] LAW_WORDS = {"side", "column", "line", "men", "foes", "supply", "temper", "sign", "day", "mood"};
    private static final String[] ORDER_WORDS = {"day", "done", "latest", "line 3", "line 0", "supply 0", "supply 1", "temper 1"};
    private static int wrong = 0;
    private static final int[] GOOD = new int[48];

    private final Random random;
    private final HyphenWar war = new HyphenWar();
    private final Model model = new Model();
    private final StringBuilder log = new StringBuilder();
    private int calls = 0;

    private ModelTest(long seed) {
        random = new Random(seed);
    }

    public static void main(String[] args) {
        int runs = args.length > 0 ? Integer.parseInt(args[0]) : 3000;
        for (int run = 0; run < runs && wrong < 5; run++) {
            new ModelTest(run).run(run);
        }
        for (int kind = 0; kind < 40; kind++) {
            if (GOOD[kind] == 0) {
                wrong++;
                System.out.println("call " + kind + " was never answered otherwise than by a refusal");
            }
        }
        System.out.println(wrong == 0 ? "the class answers as the model" : wrong + " runs differ");
        if (wrong != 0) {
            System.exit(1);
        }
    }

    private void run(int run) {
        setUp();
        // a text and what is asked behind it are 25 calls at most, and the document ends at 512
        while (calls <= 512 - 25) {
            if (!call()) {
                wrong++;
                System.out.println("run " + run + ":\n" + log);
                return;
            }
        }
    }

    private int draw(int n) {
        return random.nextInt(n);
    }

    /** Mostly a number within, at times one just beyond or far from it. */
    private int number(int low, int high) {
        int how = draw(60);
        if (how == 0) {
            return low - 1;
        }
        if (how == 1) {
            return high + 1;
        }
        if (how == 2) {
            return new int[] {Integer.MIN_VALUE, Integer.MAX_VALUE, -1000, 0}[draw(4)];
        }
        return low + draw(high - low + 1);
    }

    private boolean same(int kind, String call, long got, long due) {
        calls++;
        log.append(call).append(" answered ").append(got).append(", due is ").append(due).append('\n');
        GOOD[kind] += got >= 0 ? 1 : 0;
        return got == due;
    }

    private void setUp() {
        for (int i = 0; i < 16; i++) {
            int side = i / 8;
            int k = i % 8;
            int men = draw(30);
            int read = draw(41) - 20;
            int answer = draw(10) - 2 < 0 ? -1 : draw(8);
            same(0, "men(" + side + ", " + k + ", " + men + ")", war.men(side, k, men), model.told(() -> model.changeMen(side, k, men)));
            same(3, "sign(" + k + ", " + side + ", 0, " + read + ")", war.sign(k, side, 0, read), model.told(() -> model.changeSign(k, side, 0, read)));
            same(3, "sign(" + k + ", " + side + ", 1, " + answer + ")", war.sign(k, side, 1, answer), model.told(() -> model.changeSign(k, side, 1, answer)));
        }
    }

    private boolean feedText(String text) {
        boolean fits = true;
        for (int i = 0; i < text.length(); i += 20) {
            int[] five = new int[5];
            for (int k = 0; k < 20; k++) {
                char c = i + k < text.length() ? text.charAt(i + k) : ' ';
                five[k / 4] = five[k / 4] << 8 | c;
            }
            fits &= same(7, "feed(" + five[0] + ", .., " + five[4] + ")", war.feed(five[0], five[1], five[2], five[3], five[4]), model.feed(five));
        }
        int n = Math.min(text.length(), model.tape.length());
        return fits && same(8, "end(" + n + ")", war.end(n), model.end(n));
    }

    private String sum(String[] words, int deep) {
        int how = draw(deep > 4 ? 3 : 8);
        String small = Integer.toString(draw(12));
        switch (how) {
            case 0:
                return small;
            case 1:
            case 2:
                return words[draw(words.length)];
            case 3:
                return "[" + sum(words, deep + 1) + "]";
            case 4:
                return draw(8) == 0 ? Integer.toString(draw(1001)) : small;
            default:
                return sum(words, deep + 1) + " " + "+-*/%".charAt(draw(5)) + (draw(3) == 0 ? "" : " ") + sum(words, deep + 1);
        }
    }

    private String test(String[] words, int deep) {
        int how = draw(deep > 3 ? 3 : 7);
        switch (how) {
            case 3:
                return "not " + test(words, deep + 1);
            case 4:
                return "(" + test(words, deep + 1) + ")";
            case 5:
            case 6:
                return test(words, deep + 1) + (how == 5 ? " and " : " or ") + test(words, deep + 1);
            default:
                return sum(words, deep + 2) + " " + "<>=".charAt(draw(3)) + " " + sum(words, deep + 2);
        }
    }

    private String lawText() {
        StringBuilder text = new StringBuilder();
        int clauses = draw(12) == 0 ? 11 + draw(3) : 1 + draw(6);
        for (int i = 0; i < clauses; i++) {
            text.append(i > 0 ? ";" : "");
            String kind = new String[] {"reads", "costs", "feeds", "bars"}[draw(4)];
            text.append(kind);
            if (!kind.equals("bars")) {
                text.append(' ').append(sum(LAW_WORDS, draw(4)));
            }
            if (draw(3) > 0 || kind.equals("bars")) {
                text.append(" if ").append(test(LAW_WORDS, draw(3)));
            }
        }
        return spoilt(text);
    }

    private String small(int n) {
        return draw(6) == 0 ? sum(ORDER_WORDS, 3) : Integer.toString(draw(n));
    }

    private String orderText() {
        StringBuilder text = new StringBuilder();
        int clauses = draw(12) == 0 ? 11 + draw(3) : 1 + draw(5);
        for (int i = 0; i < clauses; i++) {
            text.append(i > 0 ? " ; " : "");
            switch (draw(4)) {
                case 0:
                    text.append("attack ").append(small(2)).append(" at ").append(small(8));
                    break;
                case 1:
                    text.append("shift ").append(small(2)).append(" at ").append(small(8)).append(" by ").append(draw(2) == 0 ? "0-" : "").append(small(4));
                    break;
                case 2:
                    text.append("show ").append(small(8)).append(" to ").append(small(2));
                    break;
                default:
                    text.append("pass");
                    break;
            }
            text.append(draw(4) == 0 ? " times " + draw(22) : "");
            text.append(draw(3) == 0 ? " if " + test(ORDER_WORDS, draw(3)) : "");
        }
        return spoilt(text);
    }

    /** At times a byte is put in, taken out or changed; never above 400 bytes. */
    private String spoilt(StringBuilder text) {
        String signs = " abimnorstz0159;<>=()[]+-*/%A\0\377_";
        while (draw(4) == 0 && text.length() > 0) {
            int i = draw(text.length());
            int how = draw(3);
            if (how != 1) {
                text.deleteCharAt(i);
            }
            if (how != 0) {
                text.insert(i, signs.charAt(draw(signs.length())));
            }
        }
        text.setLength(Math.min(text.length(), 400));
        return text.toString();
    }

    private String rowText() {
        StringBuilder bytes = new StringBuilder();
        int n = draw(20);
        for (int i = 0; i < n; i++) {
            bytes.append((char) (i % 3 == 0 ? draw(3) : i % 3 == 1 ? draw(9) : draw(110)));
        }
        if (draw(5) == 0 && n > 0) {
            bytes.setCharAt(draw(n), (char) (128 + draw(128)));
        }
        return bytes.toString();
    }

    private boolean callText() {
        int how = draw(4);
        boolean tapeEmpty = model.tape.length() == 0;
        if (!tapeEmpty && draw(3) > 0) {
            return same(8, "end(0)", war.end(0), model.end(0));
        }
        if (how == 0) {
            return feedText(rowText()) && same(9, "row()", war.row(), model.told(model::row)) && same(10, "strokes()", war.strokes(), model.strokes);
        }
        boolean law = how == 1;
        String text = law ? lawText() : orderText();
        log.append(text).append('\n');
        boolean fine = feedText(text) && (law ? same(11, "law()", war.law(), model.told(model::law)) : same(12, "orders()", war.orders(), model.told(model::orders)))
                && same(13, "fault()", war.fault(), model.fault) && same(14, "stopped()", war.stopped(), model.stopped);
        int newest = model.now.laws.size() - 1;
        return fine && (!law || draw(2) == 0 || same(15, "force(" + newest + ")", war.force(newest), model.told(() -> model.changeForce(newest))));
    }

    private boolean call() {
        int side = number(0, 1);
        int k = number(0, 7);
        int what = number(0, 1);
        int kind = draw(46);
        String at = kind + ": " + side + ", " + k + ", " + what + " ";
        boolean sideOk = Model.in(side, 0, 1);
        boolean kOk = Model.in(k, 0, 7);
        boolean whatOk = Model.in(what, 0, 1);
        switch (kind) {
            case 0: {
                int men = number(0, 99);
                return same(0, at + "men " + men, war.men(side, k, men), model.told(() -> model.changeMen(side, k, men)));
            }
            case 1: {
                int w = number(0, 6);
                return same(1, at + "at " + w, war.at(k, w), model.queryAt(k, w));
            }
            case 2: {
                int w = number(0, 3);
                return same(2, at + "of " + w, war.of(side, w), model.queryOf(side, w));
            }
            case 3: {
                int v = what == 0 ? number(-20, 20) : number(-1, 7);
                return same(3, at + "sign " + v, war.sign(k, side, what, v), model.told(() -> model.changeSign(k, side, what, v)));
            }
            case 4:
                return same(4, at + "reads", war.reads(k, side, what), !sideOk || !kOk || !whatOk ? -1000 : what == 0 ? model.now.reads(k, side) : model.now.answer[k][side]);
            case 5: {
                int v = what == 0 ? number(-9, 9) : number(0, 10);
                return same(5, at + "word " + v, war.word(k, side, what, v), model.told(() -> model.changeWord(k, side, what, v)));
            }
            case 6: {
                int w = number(0, 2);
                int v = w == 0 ? (draw(3) == 0 ? 990 + draw(11) : number(0, 999)) : w == 1 ? number(1, 40) : number(0, 9);
                return same(6, at + "terms " + w + ", " + v, war.terms(w, v), model.told(() -> model.changeTerms(w, v)));
            }
            case 7: {
                int n = number(0, 40);
                return same(8, at + "end " + n, war.end(n), model.end(n));
            }
            case 8:
            case 9:
            case 10:
            case 11:
                return callText();
            case 12: {
                int law = number(-1, 5);
                return same(15, at + "force " + law, war.force(law), model.told(() -> model.changeForce(law)));
            }
            case 13:
            case 14:
            case 15:
                return same(16, at + "attack", war.attack(side, k), model.told(() -> model.act(0, side, k, 0)));
            case 16:
            case 17: {
                int n = draw(4) == 0 ? number(-99, 99) : draw(11) - 5;
                return same(17, at + "shift " + n, war.shift(side, k, n), model.told(() -> model.act(1, side, k, n)));
            }
            case 18:
            case 19:
                return same(18, at + "show", war.show(k, side), model.told(() -> model.act(2, k, side, 0)));
            case 20:
                return same(19, at + "pass", war.pass(), model.told(() -> model.act(3, 0, 0, 0)));
            case 21:
            case 22:
                return same(20, at + "undo", war.undo(), model.told(model::undo));
            default:
                return callPaper(kind, side, k, what);
        }
    }

    private boolean callPaper(int kind, int side, int k, int what) {
        String at = kind + ": " + side + ", " + k + ", " + what + " ";
        boolean sideOk = Model.in(side, 0, 1);
        boolean kOk = Model.in(k, 0, 7);
        boolean whatOk = Model.in(what, 0, 1);
        switch (kind) {
            case 23:
                return same(21, at + "treaty", war.treaty(what), whatOk ? model.treaty(what) : -1);
            case 24:
                return same(22, at + "hear", war.hear(k, what), model.told(() -> model.hear(k, what)));
            case 25: {
                int by = kOk && sideOk && draw(3) > 0 ? model.now.reads(k, side) : number(-20, 20);
                return same(23, at + "tell " + by, war.tell(side, by), model.told(() -> model.tell(side, by)));
            }
            case 26:
                return draw(4) > 0 || same(24, at + "forget", war.forget(), model.forget());
            case 27:
                return same(25, at + "probably", war.probably(), model.probably(model.now.heard));
            case 28:
                return same(26, at + "ask", war.ask(what), whatOk ? model.ask(what) : -1);
            case 29:
                return same(27, at + "chain", war.chain(k, side, what), sideOk && kOk && whatOk ? model.chain(k, side, 0)[what] : -1);
            case 30:
                return same(28, at + "stilled", war.stilled(what), whatOk ? model.stilled(what) : -1);
            case 31: {
                int w = number(0, 2);
                return same(29, at + "pushed " + w, war.pushed(side, w), sideOk && Model.in(w, 0, 2) ? model.pushed(side, w) : -1);
            }
            case 32:
                return same(30, at + "level", war.level(side), sideOk ? model.level(side) : -1);
            case 33:
                return same(31, at + "posts", war.posts(k, what), kOk && whatOk ? model.posts(k, what) : -1);
            case 34: {
                int well = number(0, 7);
                int w = number(0, 2);
                boolean fine = sideOk && kOk && Model.in(well, 0, 7) && well != k && Model.in(w, 0, 2);
                return same(32, at + "way " + well + ", " + w, war.way(side, k, well, w), fine ? model.way(side, k, well, w) : -1);
            }
            case 35: {
                int n = number(0, 60);
                return same(33, at + "holds " + n, war.holds(n), Model.in(n, 0, 60) ? model.holds(n) : -1);
            }
            case 36:
                return same(34, at + "which", war.which(), model.which());
            case 37: {
                int law = number(-1, 5);
                return same(35, at + "compare " + law, war.compare(law), model.isLaw(law) ? model.compare(law) : -1);
            }
            default:
                return callRest(kind, k, what);
        }
    }

    private boolean callRest(int kind, int k, int what) {
        String at = kind + ": " + k + ", " + what + " ";
        switch (kind) {
            case 38: {
                int seed = number(0, 1000000);
                int n = number(1, 60);
                return same(36, at + "decades " + seed + ", " + n, war.decades(seed, n), model.told(() -> model.decades(seed, n)));
            }
            case 39:
            case 40: {
                int w = number(0, 4);
                int at2 = w > 2 && draw(5) > 0 ? k & 1 : k;
                return same(37, at + "drawn " + at2 + ", " + w, war.drawn(at2, w), model.queryDrawn(at2, w));
            }
            case 41:
                return draw(3) > 0 || same(38, at + "image", war.image(what), model.told(() -> model.image(what)));
            case 42:
                return draw(5) > 0 || same(39, at + "back", war.back(what), model.told(() -> model.back(what)));
            default: {
                int w = number(0, 13);
                return same(40, at + "count " + w, war.count(w), model.count(w)) && same(41, "status", war.status(), model.status);
            }
        }
    }
}

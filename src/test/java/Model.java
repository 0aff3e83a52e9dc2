import java.util.ArrayDeque;
import java.util.ArrayList;
import java.util.Arrays;
import java.util.HashSet;
import java.util.List;
import java.util.Set;
import java.util.function.IntBinaryOperator;
import java.util.function.Predicate;

/**
 * The document once more, written another way than the class under test: with trees, exceptions
 * and whole copies of the state, as no limit of LANGUAGE.md binds it. ModelTest compares the two.
 */
final class Model {
    static final int NONE = -1;
    static final int NOTHING = -1000;

    /** A fault's place. */
    static final class Fault extends Exception {
        private static final long serialVersionUID = 1L;
        final int place;

        Fault(int place) {
            this.place = place;
        }
    }

    /** Thrown where a sum or a test is broken. */
    static final class Broken extends Exception {
        private static final long serialVersionUID = 1L;
    }

    /** Thrown where a call is refused. */
    static final class Refused extends Exception {
        private static final long serialVersionUID = 1L;
        final int by;

        Refused(int by) {
            this.by = by;
        }
    }

    interface Words {
        long of(String word);
    }

    interface Sum {
        long value(Words words) throws Broken;
    }

    interface Test {
        boolean so(Words words) throws Broken;
    }

    static final class Clause {
        String kind;
        List<Sum> sums = new ArrayList<>();
        int times = 1;
        Test test;
    }

    static final class Token {
        final String text;
        final int place;

        Token(String text, int place) {
            this.text = text;
            this.place = place;
        }

        boolean number() {
            return !text.isEmpty() && Character.isDigit(text.charAt(0)) && text.charAt(0) < 128;
        }

        long value() {
            return text.length() > 12 && text.replaceFirst("^0+", "").length() > 12 ? Long.MAX_VALUE : Long.parseLong(text);
        }
    }

    static final class Parser {
        final List<Token> tokens = new ArrayList<>();
        final boolean law;
        int at = 0;
        int parts = 0;
        int open = 0;

        Parser(String text, boolean law) {
            this.law = law;
            int i = 0;
            while (i < text.length()) {
                char c = text.charAt(i);
                int j = i + 1;
                if (c == ' ') {
                    i = j;
                    continue;
                }
                String same = c >= 'a' && c <= 'z' ? "[a-z]" : c >= '0' && c <= '9' ? "[0-9]" : null;
                while (same != null && j < text.length() && text.substring(j, j + 1).matches(same)) {
                    j++;
                }
                tokens.add(new Token(text.substring(i, j), i));
                i = j;
            }
            tokens.add(new Token("", text.length()));
        }

        Token now() {
            return tokens.get(at);
        }

        boolean is(String... texts) {
            return Arrays.asList(texts).contains(now().text);
        }

        String take(String... texts) throws Fault {
            if (!is(texts)) {
                throw new Fault(now().place);
            }
            return tokens.get(at++).text;
        }

        int takeNumber(long low, long high) throws Fault {
            if (!now().number() || now().value() < low || now().value() > high) {
                throw new Fault(now().place);
            }
            return (int) tokens.get(at++).value();
        }

        List<Clause> clauses() throws Fault {
            List<Clause> all = new ArrayList<>();
            while (true) {
                if (all.size() == 12) {
                    throw new Fault(now().place);
                }
                all.add(law ? lawClause() : order());
                if (is("")) {
                    return all;
                }
                take(";");
            }
        }

        Clause lawClause() throws Fault {
            Clause c = new Clause();
            c.kind = take("reads", "costs", "feeds", "bars");
            if (!c.kind.equals("bars")) {
                c.sums.add(sum());
            }
            return withIf(c);
        }

        Clause order() throws Fault {
            Clause c = new Clause();
            c.kind = take("attack", "shift", "show", "pass");
            String[] joints = c.kind.equals("attack") ? new String[] {"", "at"}
                    : c.kind.equals("shift") ? new String[] {"", "at", "by"}
                    : c.kind.equals("show") ? new String[] {"", "to"} : new String[0];
            for (String joint : joints) {
                if (!joint.isEmpty()) {
                    take(joint);
                }
                c.sums.add(sum());
            }
            if (is("times")) {
                take("times");
                c.times = takeNumber(1, 20);
            }
            return withIf(c);
        }

        Clause withIf(Clause c) throws Fault {
            if (is("if")) {
                take("if");
                c.test = test();
            }
            return c;
        }

        Test test() throws Fault {
            Test left = both();
            while (is("or")) {
                take("or");
                Test a = left;
                Test b = both();
                left = w -> a.so(w) || b.so(w);
            }
            return left;
        }

        Test both() throws Fault {
            Test left = plain();
            while (is("and")) {
                take("and");
                Test a = left;
                Test b = plain();
                left = w -> a.so(w) && b.so(w);
            }
            return left;
        }

        void openBracket(String bracket) throws Fault {
            if (open == 8) {
                throw new Fault(now().place);
            }
            take(bracket);
            open++;
        }

        void closeBracket(String bracket) throws Fault {
            take(bracket);
            open--;
        }

        Test plain() throws Fault {
            if (is("not")) {
                take("not");
                Test t = plain();
                return w -> !t.so(w);
            }
            if (is("(")) {
                openBracket("(");
                Test t = test();
                closeBracket(")");
                return t;
            }
            Sum a = sum();
            String how = take("<", ">", "=");
            Sum b = sum();
            return w -> {
                int compared = Long.compare(a.value(w), b.value(w));
                return how.equals("<") ? compared < 0 : how.equals(">") ? compared > 0 : compared == 0;
            };
        }

        Sum sum() throws Fault {
            Sum left = term();
            while (is("+", "-")) {
                String how = take("+", "-");
                Sum a = left;
                Sum b = term();
                left = w -> checked(how, a.value(w), b.value(w));
            }
            return left;
        }

        Sum term() throws Fault {
            Sum left = part();
            while (is("*", "/", "%")) {
                String how = take("*", "/", "%");
                Sum a = left;
                Sum b = part();
                left = w -> checked(how, a.value(w), b.value(w));
            }
            return left;
        }

        static long checked(String how, long a, long b) throws Broken {
            if (b == 0 && (how.equals("/") || how.equals("%"))) {
                throw new Broken();
            }
            long v = how.equals("+") ? a + b : how.equals("-") ? a - b : how.equals("*") ? a * b : how.equals("/") ? a / b : a % b;
            if (Math.abs(v) > 1_000_000_000L) {
                throw new Broken();
            }
            return v;
        }

        Sum part() throws Fault {
            if (is("[")) {
                openBracket("[");
                Sum s = sum();
                closeBracket("]");
                return s;
            }
            if (++parts > 50) {
                throw new Fault(now().place);
            }
            if (now().number()) {
                int n = takeNumber(0, 1000);
                return w -> n;
            }
            String word = law
                    ? take("side", "column", "line", "men", "foes", "supply", "temper", "sign", "day", "mood")
                    : take("day", "done", "latest", "line", "supply", "temper");
            if (!law && (word.equals("line") || word.equals("supply") || word.equals("temper"))) {
                String whole = word + takeNumber(0, word.equals("line") ? 7 : 1);
                return w -> w.of(whole);
            }
            return w -> w.of(word);
        }
    }

    static final class State {
        int[] line = new int[8];
        int[][] men = new int[2][8];
        int[] supply = {50, 50};
        int[] temper = {20, 20};
        int[][] read = new int[8][2];
        int[][] answer = new int[8][2];
        int[][] worth = new int[8][2];
        int[][] pauses = new int[8][2];
        List<int[]> heard = new ArrayList<>();
        List<int[]> told = new ArrayList<>();
        int[] terms = {0, 3, 0};
        List<List<Clause>> laws = new ArrayList<>();
        int force = NONE;

        State() {
            for (int i = 0; i < 8; i++) {
                Arrays.fill(answer[i], NONE);
                Arrays.fill(pauses[i], 5);
            }
        }

        State copy() {
            State s = new State();
            s.line = line.clone();
            s.supply = supply.clone();
            s.temper = temper.clone();
            s.terms = terms.clone();
            s.men = deep(men);
            s.read = deep(read);
            s.answer = deep(answer);
            s.worth = deep(worth);
            s.pauses = deep(pauses);
            s.heard = new ArrayList<>(heard);
            s.told = new ArrayList<>(told);
            s.laws = new ArrayList<>(laws);
            s.force = force;
            return s;
        }

        static int[][] deep(int[][] rows) {
            int[][] copy = rows.clone();
            for (int i = 0; i < rows.length; i++) {
                copy[i] = rows[i].clone();
            }
            return copy;
        }

        int allMen(int side) {
            return Arrays.stream(men[side]).sum();
        }

        Words words(int side, int column, int sign, int allMen) {
            return w -> {
                switch (w) {
                    case "side": return side;
                    case "column": return column;
                    case "line": return column < 0 ? -1 : line[column];
                    case "men": return column < 0 ? allMen : men[side][column];
                    case "foes": return column < 0 ? -1 : men[1 - side][column];
                    case "supply": return supply[side];
                    case "temper": return temper[side];
                    case "sign": return sign;
                    case "day": return terms[0];
                    default: return terms[2];
                }
            };
        }

        Long lastThatHolds(int law, String kind, Words words) {
            Long told = null;
            if (law == NONE) {
                return null;
            }
            for (Clause c : laws.get(law)) {
                if (!c.kind.equals(kind)) {
                    continue;
                }
                try {
                    if (c.test == null || c.test.so(words)) {
                        told = c.sums.isEmpty() ? 1L : c.sums.get(0).value(words);
                    }
                } catch (Broken broken) {
                    continue;
                }
            }
            return told;
        }

        int near(Long told, int without, int low, int high) {
            return told == null ? without : (int) Math.max(low, Math.min(high, told));
        }

        int costs(int law, int side, int column) {
            return near(lastThatHolds(law, "costs", words(side, column, -1, -1)), 5, 0, 99);
        }

        boolean barred(int side, int column) {
            return lastThatHolds(force, "bars", words(side, column, -1, -1)) != null;
        }

        int feeds(int side) {
            return near(lastThatHolds(force, "feeds", words(side, -1, -1, allMen(side))), 3, 0, 99);
        }

        int reads(int sign, int side) {
            return near(lastThatHolds(force, "reads", words(side, -1, sign, -1)), read[sign][side], -20, 20);
        }

        int attack(int side, int column) throws Refused {
            need(side, 0, 1);
            need(column, 0, 7);
            int cost = costs(force, side, column);
            if (barred(side, column) || supply[side] < cost || men[side][column] < 1) {
                throw new Refused(-3);
            }
            supply[side] -= cost;
            if (men[side][column] > men[1 - side][column]) {
                men[1 - side][column] -= men[1 - side][column] / 2;
                int to = line[column] + (side == 0 ? 1 : -1);
                if (Math.abs(to) > 3) {
                    return 0;
                }
                line[column] = to;
                return 1;
            }
            men[side][column] -= men[side][column] / 2;
            return 0;
        }

        int shift(int side, int column, int n) throws Refused {
            need(side, 0, 1);
            need(column, 0, 7);
            need(n, -99, 99);
            need(n == 0 ? -1 : 0, 0, 0);
            int to = n > 0 ? column + 1 : column - 1;
            need(to, 0, 7);
            int m = Math.abs(n);
            if (men[side][column] < m || men[side][to] + m > 99) {
                throw new Refused(-3);
            }
            men[side][column] -= m;
            men[side][to] += m;
            return men[side][column];
        }

        int show(int sign, int side) throws Refused {
            need(sign, 0, 7);
            need(side, 0, 1);
            return shown(sign, side, 1);
        }

        private int shown(int sign, int side, int nth) {
            temper[side] = Math.max(0, Math.min(99, temper[side] + reads(sign, side)));
            int next = answer[sign][side];
            return next == NONE || nth == 16 ? nth : shown(next, 1 - side, nth + 1);
        }

        int pass() throws Refused {
            if (terms[0] == 999) {
                throw new Refused(-3);
            }
            int[] fed = {feeds(0), feeds(1)};
            for (int side = 0; side < 2; side++) {
                supply[side] = Math.min(999, supply[side] + fed[side]);
            }
            return ++terms[0];
        }
    }

    static void need(int value, int low, int high) throws Refused {
        if (value < low || value > high) {
            throw new Refused(-1);
        }
    }

    static final class Undo {
        final int kind;
        final State state;

        Undo(int kind, State state) {
            this.kind = kind;
            this.state = state;
        }
    }

    State now = new State();
    final State[] images = new State[2];
    State drawn;
    ArrayDeque<Undo> undos = new ArrayDeque<>();
    StringBuilder tape = new StringBuilder();
    int fault = NONE;
    int strokes = 0;
    int stopped = NONE;
    int status = 0;
    final int[] refused = new int[7];

    interface Call {
        int answer() throws Refused;
    }

    int told(Call call) {
        try {
            int answer = call.answer();
            status = 0;
            return answer;
        } catch (Refused r) {
            status = r.by;
            refused[-r.by]++;
            return r.by;
        }
    }

    int act(int kind, int a, int b, int c) throws Refused {
        State was = now.copy();
        int answer = kind == 0 ? now.attack(a, b) : kind == 1 ? now.shift(a, b, c) : kind == 2 ? now.show(a, b) : now.pass();
        undos.addLast(new Undo(kind, was));
        if (undos.size() > 16) {
            undos.removeFirst();
        }
        return answer;
    }

    String takeTape() {
        String text = tape.toString();
        tape.setLength(0);
        return text;
    }

    List<Clause> read(String text, boolean law) throws Refused {
        try {
            fault = NONE;
            return new Parser(text, law).clauses();
        } catch (Fault f) {
            fault = f.place;
            throw new Refused(-6);
        }
    }

    int law() throws Refused {
        String text = takeTape();
        if (now.laws.size() == 6) {
            throw new Refused(-5);
        }
        now.laws.add(read(text, true));
        return now.laws.size() - 1;
    }

    int orders() throws Refused {
        String text = takeTape();
        stopped = NONE;
        List<Clause> clauses = read(text, false);
        State was = now.copy();
        ArrayDeque<Undo> undosWere = new ArrayDeque<>(undos);
        int[] doneLatest = {0, -1};
        Words words = w -> {
            if (w.equals("day")) {
                return now.terms[0];
            }
            if (w.equals("done")) {
                return doneLatest[0];
            }
            if (w.equals("latest")) {
                return doneLatest[1];
            }
            int n = w.charAt(w.length() - 1) - '0';
            return w.startsWith("line") ? now.line[n] : w.startsWith("supply") ? now.supply[n] : now.temper[n];
        };
        for (int c = 0; c < clauses.size(); c++) {
            for (int t = 0; t < clauses.get(c).times; t++) {
                try {
                    if (!isSo(clauses.get(c).test, words)) {
                        continue;
                    }
                    int[] args = new int[3];
                    for (int i = 0; i < clauses.get(c).sums.size(); i++) {
                        args[i] = (int) clauses.get(c).sums.get(i).value(words);
                    }
                    int kind = Arrays.asList("attack", "shift", "show", "pass").indexOf(clauses.get(c).kind);
                    int told = act(kind, args[0], args[1], args[2]);
                    if (kind == 0) {
                        doneLatest[1] = told;
                    }
                    doneLatest[0]++;
                } catch (Broken | Refused e) {
                    stopped = c;
                    now = was;
                    undos = undosWere;
                    throw new Refused(-3);
                }
            }
        }
        return doneLatest[0];
    }

    static boolean isSo(Test test, Words words) {
        try {
            return test == null || test.so(words);
        } catch (Broken b) {
            return false;
        }
    }

    int row() throws Refused {
        String bytes = takeTape();
        if (bytes.isEmpty()) {
            throw new Refused(-6);
        }
        int told = 0;
        strokes = 0;
        for (int i = 0; i < bytes.length(); i += 3) {
            String three = bytes.substring(i, Math.min(i + 3, bytes.length()));
            if (three.length() == 3 && three.charAt(0) < 2 && three.charAt(1) < 8 && three.charAt(2) < 100) {
                now.men[three.charAt(0)][three.charAt(1)] = three.charAt(2);
                told++;
            } else {
                strokes++;
            }
        }
        undos.clear();
        return told;
    }

    int feed(int... five) {
        if (tape.length() > 380) {
            return NONE;
        }
        for (int n : five) {
            for (int k = 3; k >= 0; k--) {
                tape.append((char) (n >> 8 * k & 255));
            }
        }
        return tape.length();
    }

    /** The set with the least number by the order; the lowest of those that are alike. */
    static int least(Predicate<Integer> fits, IntBinaryOperator order) {
        int best = NONE;
        for (int set = 0; set < 256; set++) {
            if (fits.test(set) && (best == NONE || order.applyAsInt(set, best) < 0)) {
                best = set;
            }
        }
        return best;
    }

    static int fewest(Predicate<Integer> fits) {
        return least(fits, (a, b) -> Integer.bitCount(a) - Integer.bitCount(b));
    }

    static int sizeOrSet(int set, int what) {
        return set == NONE ? NONE : what == 0 ? Integer.bitCount(set) : set;
    }

    static boolean has(int set, int i) {
        return (set & 1 << i) != 0;
    }

    int treaty(int what) {
        return sizeOrSet(fewest(set -> {
            int[] worth = new int[2];
            for (int w = 0; w < 8; w++) {
                if (has(set, w)) {
                    worth[0] += now.worth[w][0];
                    worth[1] += now.worth[w][1];
                }
            }
            return Math.min(worth[0], worth[1]) >= now.terms[1];
        }), what);
    }

    int probably(List<int[]> heard) {
        long[] parts = {1, 1};
        for (int[] h : heard) {
            for (int side = 0; side < 2; side++) {
                int p = now.pauses[h[0]][side];
                parts[side] *= h[1] == 1 ? p : 10 - p;
            }
        }
        return parts[0] + parts[1] == 0 ? 500_000 : (int) (parts[0] * 1_000_000 / (parts[0] + parts[1]));
    }

    int ask(int what) {
        int word = NONE;
        int most = NONE;
        for (int w = 0; w < 8; w++) {
            List<int[]> yes = new ArrayList<>(now.heard);
            List<int[]> no = new ArrayList<>(now.heard);
            yes.add(new int[] {w, 1});
            no.add(new int[] {w, 0});
            int d = Math.abs(probably(yes) - probably(no));
            if (d > most) {
                most = d;
                word = w;
            }
        }
        return what == 0 ? word : most;
    }

    /** How many are shown, and whether one would be again. */
    int[] chain(int sign, int side, int still) {
        Set<String> seen = new HashSet<>();
        int s = sign;
        int to = side;
        while (s != NONE) {
            if (!seen.add(s + " to " + to)) {
                return new int[] {seen.size(), 1};
            }
            s = has(still, s) ? NONE : now.answer[s][to];
            to = 1 - to;
        }
        return new int[] {seen.size(), 0};
    }

    int stilled(int what) {
        return sizeOrSet(fewest(set -> {
            for (int i = 0; i < 16; i++) {
                if (chain(i / 2, i % 2, set)[1] == 1) {
                    return false;
                }
            }
            return true;
        }), what);
    }

    int pushed(int side, int what) {
        int[] costs = new int[256];
        for (int set = 0; set < 256; set++) {
            for (int c = 0; c < 8; c++) {
                costs[set] += has(set, c) ? now.costs(now.force, side, c) : 0;
            }
        }
        int best = least(set -> {
            for (int c = 0; c < 8; c++) {
                boolean can = !now.barred(side, c) && now.men[side][c] > now.men[1 - side][c]
                        && now.line[c] != (side == 0 ? 3 : -3);
                if (has(set, c) && !can) {
                    return false;
                }
            }
            return costs[set] <= now.supply[side];
        }, (a, b) -> 10_000 * (Integer.bitCount(b) - Integer.bitCount(a)) + costs[a] - costs[b]);
        return what == 1 ? costs[best] : sizeOrSet(best, what);
    }

    /** By moving men for real: from the left, each column takes from or gives to the next. */
    int level(int side) {
        int[] have = now.men[side].clone();
        int all = now.allMen(side);
        int shifted = 0;
        for (int c = 0; c < 7; c++) {
            int due = all / 8 + (c < all % 8 ? 1 : 0);
            shifted += Math.abs(have[c] - due);
            have[c + 1] += have[c] - due;
        }
        return shifted;
    }

    int posts(int reach, int what) {
        return sizeOrSet(fewest(set -> {
            for (int c = 0; c < 8; c++) {
                boolean seen = false;
                for (int p = Math.max(0, c - reach); p <= Math.min(7, c + reach); p++) {
                    seen |= has(set, p);
                }
                if (!seen) {
                    return false;
                }
            }
            return true;
        }), what);
    }

    int way(int side, int from, int well, int what) {
        int[] best = null;
        for (int up = 1; up >= 0; up--) {
            int foes = 0;
            int n = 0;
            for (int c = from; c != well; n++) {
                c = (c + (up == 1 ? 1 : 7)) % 8;
                foes += now.men[1 - side][c];
            }
            if (best == null || foes < best[0]) {
                best = new int[] {foes, up, n};
            }
        }
        return best[what];
    }

    long holds(int n) {
        if (n == 0) {
            return 1_000_000_000_000L;
        }
        long left = holds(n - 1);
        left = left * (100 - now.temper[0]) / 100;
        return left * (100 - now.temper[1]) / 100;
    }

    int which() {
        int set = 0;
        for (int s = 0; s < 8; s++) {
            int sign = s;
            set |= now.told.stream().allMatch(t -> now.reads(sign, t[0]) == t[1]) ? 1 << s : 0;
        }
        return set;
    }

    int compare(int law) {
        int all = 0;
        for (int i = 0; i < 16; i++) {
            all += now.costs(law, i / 8, i % 8);
        }
        return all;
    }

    int decades(int seed, int n) throws Refused {
        need(seed, 0, 1_000_000);
        need(n, 1, 60);
        State paper = now.copy();
        long s = seed;
        int went = 0;
        for (int i = 0; i < n; i++) {
            if (paper.terms[0] == 999) {
                break;
            }
            int[] draws = {2, 8, 3};
            for (int k = 0; k < 3; k++) {
                s = (s * 1103 + 12345) % 1_000_003;
                draws[k] = (int) (s % draws[k]);
            }
            try {
                went += draws[2] == 0 ? paper.attack(draws[0], draws[1]) : 0;
            } catch (Refused cannot) {
                went += 0;
            }
            if (draws[2] == 1) {
                paper.show(draws[1], draws[0]);
            }
            paper.pass();
        }
        drawn = paper;
        return went;
    }

    static boolean in(int value, int low, int high) {
        return value >= low && value <= high;
    }

    boolean isLaw(int law) {
        return in(law, NONE, now.laws.size() - 1);
    }

    int count(int what) {
        int[] all = {now.heard.size(), now.told.size(), now.laws.size(), undos.size(), tape.length(), refused[1], refused[2],
            refused[3], refused[5], refused[6], now.force, now.terms[0], now.terms[1], now.terms[2]};
        return in(what, 0, 13) ? all[what] : NONE;
    }

    int set(int[][] rows, int one, int side, int value) {
        rows[one][side] = value;
        return 0;
    }

    int forgetUndo(int answer) {
        undos.clear();
        return answer;
    }

    int queryAt(int c, int what) {
        if (!in(c, 0, 7) || !in(what, 0, 6)) {
            return NOTHING;
        }
        return what == 0 ? now.line[c] : what < 3 ? now.men[what - 1][c] : what < 5 ? now.costs(now.force, what - 3, c)
                : now.barred(what - 5, c) ? 1 : 0;
    }

    int queryOf(int side, int what) {
        return !in(side, 0, 1) || !in(what, 0, 3) ? NONE : what == 0 ? now.supply[side] : what == 1 ? now.temper[side]
                : what == 2 ? now.feeds(side) : now.allMen(side);
    }

    int queryDrawn(int k, int what) {
        if (drawn == null || !in(what, 0, 4) || !in(k, 0, what < 3 ? 7 : 1)) {
            return NOTHING;
        }
        return what == 0 ? drawn.line[k] : what < 3 ? drawn.men[what - 1][k] : what == 3 ? drawn.supply[k] : drawn.temper[k];
    }

    int changeMen(int side, int column, int men) throws Refused {
        need(side, 0, 1);
        need(column, 0, 7);
        need(men, 0, 99);
        int was = now.men[side][column];
        now.men[side][column] = men;
        return forgetUndo(was);
    }

    int changeSign(int sign, int side, int what, int value) throws Refused {
        need(sign, 0, 7);
        need(side, 0, 1);
        need(what, 0, 1);
        need(value, what == 0 ? -20 : -1, what == 0 ? 20 : 7);
        return forgetUndo(set(what == 0 ? now.read : now.answer, sign, side, value));
    }

    int changeWord(int word, int side, int what, int value) throws Refused {
        need(word, 0, 7);
        need(side, 0, 1);
        need(what, 0, 1);
        need(value, what == 0 ? -9 : 0, what == 0 ? 9 : 10);
        return set(what == 0 ? now.worth : now.pauses, word, side, value);
    }

    int changeTerms(int what, int value) throws Refused {
        need(what, 0, 2);
        need(value, what == 1 ? 1 : 0, new int[] {999, 40, 9}[what]);
        int was = now.terms[what];
        now.terms[what] = value;
        return forgetUndo(was);
    }

    int changeForce(int law) throws Refused {
        if (!isLaw(law)) {
            throw new Refused(-2);
        }
        int was = now.force;
        now.force = law;
        return was;
    }

    int undo() throws Refused {
        if (undos.isEmpty()) {
            throw new Refused(-3);
        }
        Undo u = undos.removeLast();
        now.line = u.state.line;
        now.men = u.state.men;
        now.supply = u.state.supply;
        now.temper = u.state.temper;
        now.terms[0] = u.state.terms[0];
        return u.kind;
    }

    int addTo(List<int[]> list, int most, int a, int b) throws Refused {
        if (list.size() == most) {
            throw new Refused(-5);
        }
        list.add(new int[] {a, b});
        return list.size();
    }

    int hear(int word, int paused) throws Refused {
        need(word, 0, 7);
        need(paused, 0, 1);
        return addTo(now.heard, 8, word, paused);
    }

    int tell(int side, int by) throws Refused {
        need(side, 0, 1);
        need(by, -20, 20);
        return addTo(now.told, 6, side, by);
    }

    int forget() {
        int were = now.heard.size() + now.told.size();
        now.heard.clear();
        now.told.clear();
        return were;
    }

    int image(int k) throws Refused {
        need(k, 0, 1);
        images[k] = now.copy();
        return 0;
    }

    int back(int k) throws Refused {
        need(k, 0, 1);
        if (images[k] == null) {
            throw new Refused(-2);
        }
        now = images[k].copy();
        return forgetUndo(0);
    }

    int end(int n) {
        if (!in(n, 0, tape.length())) {
            return NONE;
        }
        tape.setLength(n);
        return n;
    }
}

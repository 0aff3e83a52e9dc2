import java.io.IOException;
import java.nio.charset.StandardCharsets;
import java.nio.file.Files;
import java.nio.file.Path;
import java.util.LinkedHashMap;
import java.util.Map;
import java.util.regex.Matcher;
import java.util.regex.Pattern;

/**
 * What the tests by sentences share: each test quotes the sentence of the document that it would
 * fail for. A quote that the document does not have fails, and so does a sentence nobody quotes.
 */
final class Bounds {
    private static final Path DOCUMENT = Path.of("../shared/DOC.md");
    /** What can't be a side, a column or anything else that the calls number. */
    static final int LEAST = Integer.MIN_VALUE;
    static final int MOST = Integer.MAX_VALUE;

    /** What no test has quoted yet, by section. */
    private final Map<String, String> left = new LinkedHashMap<>();
    private String sentence = "";
    private int sentences = 0;
    private int wrong = 0;

    /** Tests of all sections whose names begin with one of these. */
    Bounds(String... names) throws IOException {
        Map<String, String> sections = sectionsOf(Files.readString(DOCUMENT, StandardCharsets.UTF_8));
        for (String section : sections.keySet()) {
            for (String name : names) {
                if (section.equals(name) || section.startsWith(name + " ")) {
                    left.put(section, sections.get(section));
                }
            }
        }
    }

    /** "Object", "Terms I" to "Terms IV" (what is on paper in III as "Paper"), "Constants", "Promise 1" to "Promise 43". */
    private static Map<String, String> sectionsOf(String document) {
        String text = document.replaceAll("(?m)^```.*$", "");
        Map<String, String> sections = new LinkedHashMap<>();
        sections.put("Object", between(text, "An object is used", "## The public face"));
        String terms = between(text, "## Terms", "## Promise 1:");
        String[] names = {"I", "II", "III", "IV"};
        for (int i = 0; i < names.length; i++) {
            String next = i < 3 ? "\n" + names[i + 1] + ". " : "The constants: ";
            sections.put("Terms " + names[i], between(terms, "\n" + names[i] + ". ", next).replaceFirst(names[i] + "\\. ", ""));
        }
        String three = sections.get("Terms III");
        sections.put("Terms III", between(three, "", "(On paper:)"));
        sections.put("Paper", between(three, "(On paper:)", "").replace("(On paper:)", ""));
        sections.put("Constants", between(terms, "The constants: ", "").replaceFirst("The constants: ", ""));
        Matcher promise = Pattern.compile("(?m)^## (Promise \\d+): .*\n\n`[^`]*`: (.*)$").matcher(text);
        while (promise.find()) {
            sections.put(promise.group(1), promise.group(2));
        }
        sections.replaceAll((name, words) -> words.trim().replaceAll("\\s+", " "));
        return sections;
    }

    private static String between(String text, String from, String to) {
        int i = Math.max(text.indexOf(from), 0);
        int j = to.isEmpty() ? text.length() : text.indexOf(to, i + 1);
        return text.substring(i, j < 0 ? text.length() : j);
    }

    /** What follows tests this sentence (or this part of one). */
    void of(String section, String quote) {
        sentence = section + ", '" + quote + "'";
        sentences++;
        String text = left.getOrDefault(section, "");
        int i = text.indexOf(quote);
        if (i < 0) {
            fail("the document does not have it, or it is quoted twice");
        } else {
            left.put(section, text.substring(0, i) + "\n" + text.substring(i + quote.length()));
        }
    }

    private void fail(String what) {
        wrong++;
        System.out.println(sentence + ": " + what);
    }

    void is(String call, long got, long want) {
        if (got != want) {
            fail(call + " answered " + got + ", due is " + want);
        }
    }

    /** Answers one behind the other. */
    void are(String calls, long[] got, long... want) {
        for (int i = 0; i < Math.max(got.length, want.length); i++) {
            if (i >= got.length || i >= want.length) {
                fail(calls + ": " + got.length + " answers, due are " + want.length);
                return;
            }
            is(calls + ", " + i, got[i], want[i]);
        }
    }

    void same(String what, String got, String want) {
        if (!got.equals(want)) {
            fail(what + ":\n" + got + ", due is\n" + want);
        }
    }

    /** A call that must be refused: its answer, the status and one refusal more of its kind alone. */
    void refused(HyphenWar x, String call, Call by, int due) {
        int[] ahead = refusals(x);
        is(call, by.on(x), due);
        is("status() behind " + call, x.status(), due);
        int[] behind = refusals(x);
        int[] codes = {-1, -2, -3, -5, -6};
        for (int i = 0; i < codes.length; i++) {
            is("refusals by " + codes[i] + " behind " + call, behind[i] - ahead[i], codes[i] == due ? 1 : 0);
        }
    }

    private static int[] refusals(HyphenWar x) {
        int[] counts = new int[5];
        for (int i = 0; i < 5; i++) {
            counts[i] = x.count(5 + i);
        }
        return counts;
    }

    interface Call {
        int on(HyphenWar x);
    }

    /** A new object with one law, which is in force. */
    HyphenWar under(String law) {
        HyphenWar x = new HyphenWar();
        force(x, law);
        return x;
    }

    /** A law more, which is in force then. */
    void force(HyphenWar x, String law) {
        int number = Due.law(x, law);
        is("law() " + law, number, x.count(2) - 1);
        x.force(number);
    }

    /** A fault of a law at a place; NONE, where it has none. */
    void lawFault(String text, int place) {
        HyphenWar x = new HyphenWar();
        is("law() of '" + text + "'", Due.law(x, text), place == HyphenWar.NONE ? 0 : -6);
        is("fault() of '" + text + "'", x.fault(), place);
    }

    /** A fault of orders at a place; NONE, where they have none (whether they can be or not). */
    void orderFault(String text, int place) {
        HyphenWar x = new HyphenWar();
        int told = Due.orders(x, text);
        is("whether orders() of '" + text + "' is refused by -6", told == -6 ? 1 : 0, place == HyphenWar.NONE ? 0 : 1);
        is("fault() of '" + text + "'", x.fault(), place);
    }

    /** What a sum is by law, 0 .. 98; NONE, where it is broken. */
    void sum(String sum, int due) {
        HyphenWar x = under("costs 99;costs " + sum);
        is(sum, x.at(0, 3), due == HyphenWar.NONE ? 99 : due);
    }

    /** Whether a test is so by law: 1, 0, or NONE, where it is broken (then not to be turned by "not", either). */
    void test(String test, int due) {
        is(test, under("bars if " + test).at(0, 5), due == 1 ? 1 : 0);
        is("not (" + test + ")", under("bars if not (" + test + ")").at(0, 5), due == 0 ? 1 : 0);
    }

    /** All that can be asked without a change, but for how many calls were refused: some 200 calls. */
    static String all(HyphenWar x) {
        StringBuilder all = new StringBuilder(kept(x));
        all.append(" stays");
        for (int k = 0; k < 8; k++) {
            for (int what = 0; what < (k < 2 ? 5 : 3); what++) {
                all.append(' ').append(x.drawn(k, what));
            }
        }
        all.append(' ').append(x.strokes()).append(' ').append(x.fault()).append(' ').append(x.stopped());
        return all.append(' ').append(x.count(3)).append(' ').append(x.count(4)).toString();
    }

    /** All that images keep. */
    static String kept(HyphenWar x) {
        StringBuilder all = new StringBuilder("columns");
        for (int k = 0; k < 8; k++) {
            for (int what = 0; what < 7; what++) {
                all.append(' ').append(x.at(k, what));
            }
        }
        all.append(" signs");
        for (int k = 0; k < 32; k++) {
            all.append(' ').append(x.reads(k / 4, k / 2 % 2, k % 2));
        }
        all.append(" sides");
        for (int k = 0; k < 8; k++) {
            all.append(' ').append(x.of(k / 4, k % 4));
        }
        all.append(" counts");
        for (int what : new int[] {0, 1, 2, 10, 11, 12, 13}) {
            all.append(' ').append(x.count(what));
        }
        all.append(" paper ").append(x.treaty(1)).append(' ').append(x.probably()).append(' ').append(x.ask(0)).append(' ').append(x.ask(1));
        all.append(' ').append(x.which()).append(" laws");
        for (int law = -1; law < 6; law++) {
            all.append(' ').append(x.compare(law));
        }
        return all.toString();
    }

    /** Ends the run: wrong, if an answer was, or if a sentence has no test. */
    void end() {
        for (String section : left.keySet()) {
            for (String rest : left.get(section).split("\n")) {
                sentence = section + ", '" + rest.trim() + "'";
                if (rest.matches(".*[\\p{Alnum}].*")) {
                    fail("no test quotes it");
                }
            }
        }
        System.out.println(wrong == 0 ? sentences + " sentences hold" : wrong + " answers are not as due");
        if (wrong != 0) {
            System.exit(1);
        }
    }
}

import java.lang.reflect.Constructor;
import java.lang.reflect.Field;
import java.lang.reflect.Method;
import java.lang.reflect.Modifier;
import java.nio.charset.StandardCharsets;
import java.nio.file.Files;
import java.nio.file.Path;
import java.util.HashSet;
import java.util.Map;
import java.util.Set;
import java.util.TreeMap;
import java.util.TreeSet;
import java.util.regex.Matcher;
import java.util.regex.Pattern;

/** The rules of LANGUAGE.md that can be seen from the file and from the class; the face is the document's. */
public final class LanguageTest {
    private static final Path SOURCE = Path.of("src/main/java/HyphenWar.java");
    private static final Path DOCUMENT = Path.of("../shared/DOC.md");
    private static int wrong = 0;

    public static void main(String[] args) throws Exception {
        String source = Files.readString(SOURCE, StandardCharsets.ISO_8859_1);
        String bare = source.replaceAll("(?s)/\\*.*?\\*/", " ").replaceAll("//[^\n]*", " ");
        face(Files.readString(DOCUMENT, StandardCharsets.UTF_8));
        words(bare);
        classes();
        methodLengths(source);
        objectsMade(source);
        callsDeep(bare);
        System.out.println(wrong == 0 ? "the rules are kept" : wrong + " rules are not kept");
        if (wrong != 0) {
            System.exit(1);
        }
    }

    private static void rule(int number, boolean kept, String what) {
        if (!kept) {
            wrong++;
            System.out.println("rule " + number + ": " + what);
        }
    }

    private static void face(String document) {
        Set<String> due = new TreeSet<>();
        Matcher method = Pattern.compile("(?m)^    public (int|long) (\\w+)\\((.*?)\\);$").matcher(document);
        while (method.find()) {
            int parameters = method.group(3).isEmpty() ? 0 : method.group(3).split(",").length;
            due.add(method.group(1) + " " + method.group(2) + " " + parameters);
        }
        Set<String> got = new TreeSet<>();
        Set<String> names = new HashSet<>();
        for (Method m : HyphenWar.class.getDeclaredMethods()) {
            if (!Modifier.isPrivate(m.getModifiers())) {
                got.add(m.getReturnType().getName() + " " + m.getName() + " " + m.getParameterCount());
                names.add(m.getName());
            }
        }
        rule(1, due.size() == 42 && due.equals(got), "the face is " + got + ", due is " + due);
        Set<String> fields = new TreeSet<>();
        for (Field f : HyphenWar.class.getDeclaredFields()) {
            if (!Modifier.isPrivate(f.getModifiers())) {
                fields.add(f.getName());
            }
        }
        rule(1, fields.equals(Set.of("NONE", "NOTHING")), "the constants are " + fields);
        Constructor<?>[] makers = HyphenWar.class.getDeclaredConstructors();
        rule(1, makers.length == 1 && Modifier.isPublic(makers[0].getModifiers()) && makers[0].getParameterCount() == 0, "the constructor");
        rule(1, Modifier.isFinal(HyphenWar.class.getModifiers()) && Modifier.isPublic(HyphenWar.class.getModifiers()), "public and final");
        for (Class<?> c : HyphenWar.class.getDeclaredClasses()) {
            for (Method m : c.getDeclaredMethods()) {
                rule(1, !names.contains(m.getName()), c.getSimpleName() + "." + m.getName() + " bears the name of a public one");
            }
        }
        for (Method m : HyphenWar.class.getDeclaredMethods()) {
            rule(1, !Modifier.isPrivate(m.getModifiers()) || !names.contains(m.getName()), m.getName() + " bears the name of a public one");
        }
    }

    private static void words(String bare) {
        String[] never = {"throw", "throws", "try", "catch", "finally", "synchronized", "assert", "import", "package", "protected", "volatile", "native",
            "yield", "var", "double", "float", "Object", "Exception", "Error", "Thread", "hashCode", "toString", "this"};
        for (String word : never) {
            rule(6, !Pattern.compile("\\b" + word + "\\b").matcher(bare).find(), "'" + word + "' stands there");
        }
        rule(2, !bare.contains("->") && !bare.contains("::"), "a lambda or a method reference");
        rule(10, !Pattern.compile("\"\\s*\\+|\\+\\s*\"").matcher(bare).find(), "texts joined by +");
        rule(4, !Pattern.compile("\\b(Integer|Long)\\.[A-Z]").matcher(bare).find(), "a constant of the library");
        rule(4, !bare.contains("Exact("), "a function whose name ends in Exact");
        Matcher library = Pattern.compile("\\b(Math|Integer|Long|System|Arrays)\\.(\\w+)").matcher(bare);
        while (library.find()) {
            rule(4, Set.of("max", "min", "abs", "bitCount", "floorMod", "floorDiv", "arraycopy", "compare").contains(library.group(2)), library.group());
        }
        for (int i = 0; i < bare.length(); i++) {
            rule(4, bare.charAt(i) < 128, "a sign above 127");
        }
    }

    private static void classes() {
        Class<?>[] inside = HyphenWar.class.getDeclaredClasses();
        rule(11, inside.length < 12, "too many classes");
        checkClass(HyphenWar.class);
        for (Class<?> c : inside) {
            rule(2, Modifier.isStatic(c.getModifiers()), c.getSimpleName() + " is not static");
            rule(2, c.getDeclaredClasses().length == 0, c.getSimpleName() + " has classes of its own");
            checkClass(c);
        }
    }

    private static void checkClass(Class<?> c) {
        int fields = 0;
        for (Field f : c.getDeclaredFields()) {
            boolean isStatic = Modifier.isStatic(f.getModifiers());
            fields += isStatic ? 0 : 1;
            Class<?> type = f.getType();
            rule(5, !isStatic || Modifier.isFinal(f.getModifiers()) && (type == int.class || type == long.class || type == String.class),
                    c.getSimpleName() + "." + f.getName());
        }
        rule(11, fields <= 20, c.getSimpleName() + " has " + fields + " fields");
        for (Method m : c.getDeclaredMethods()) {
            rule(11, m.getParameterCount() <= 7, m.getName() + " has too many parameters");
        }
    }

    private static void methodLengths(String source) {
        String[] lines = source.split("\n");
        int from = -1;
        String end = "";
        for (int i = 0; i < lines.length; i++) {
            if (lines[i].matches("(    |        )[a-zA-Z].*\\) \\{") && !lines[i].trim().matches("(for|if|while|switch|do) .*")) {
                from = i;
                end = lines[i].replaceAll("\\S.*", "}");
            }
            if (from >= 0 && lines[i].equals(end)) {
                rule(11, i - from < 60, lines[from].trim() + " is too long");
                from = -1;
            }
        }
    }

    /** But for what a law and an image keep, all rows are made with the object: no other call makes any. */
    private static void objectsMade(String source) {
        Set<String> makers = new TreeSet<>();
        String method = "";
        String end = "";
        for (String line : source.split("\n")) {
            Matcher head = Pattern.compile("^(    |        )(?:[a-zA-Z][^=;(]* )?(\\w+)\\([^=;]*\\) \\{$").matcher(line);
            if (head.find() && !line.trim().matches("(for|if|while|switch|do) .*")) {
                method = head.group(2);
                end = head.group(1) + "}";
            }
            if (line.matches(".*\\bnew [A-Za-z].*") && !method.isEmpty()) {
                makers.add(method);
            }
            if (line.equals(end)) {
                method = "";
            }
        }
        rule(12, makers.equals(Set.of("law", "image", "Text", "HyphenWar")), "objects are made by " + makers);
    }

    /** Follows the names of methods (those of one name as one), recursion once: that is who calls whom. */
    private static void callsDeep(String bare) {
        Matcher head = Pattern.compile("(?m)^ {4,8}(?:(?:public|private|static|final) )*(?:int|long|boolean|void|Text) (\\w+)\\([^;]*?\\) \\{$").matcher(bare);
        Map<String, Set<String>> calls = new TreeMap<>();
        Map<String, String> bodies = new TreeMap<>();
        int from = -1;
        String name = "";
        while (head.find()) {
            if (from >= 0) {
                bodies.merge(name, bare.substring(from, head.start()), String::concat);
            }
            name = head.group(1);
            from = head.end();
        }
        bodies.merge(name, bare.substring(from), String::concat);
        for (String method : bodies.keySet()) {
            Set<String> called = new TreeSet<>();
            Matcher call = Pattern.compile("\\b(\\w+)\\(").matcher(bodies.get(method));
            while (call.find()) {
                if (bodies.containsKey(call.group(1))) {
                    called.add(call.group(1));
                }
            }
            calls.put(method, called);
        }
        int deepest = 0;
        for (String method : bodies.keySet()) {
            deepest = Math.max(deepest, deep(method, calls, new HashSet<>()));
        }
        rule(11, bodies.size() > 100 && deepest <= 8, "calls go " + deepest + " deep");
    }

    private static int deep(String method, Map<String, Set<String>> calls, Set<String> open) {
        if (!open.add(method)) {
            return 0;
        }
        int deepest = 0;
        for (String called : calls.get(method)) {
            deepest = Math.max(deepest, deep(called, calls, open));
        }
        open.remove(method);
        return deepest + 1;
    }
}

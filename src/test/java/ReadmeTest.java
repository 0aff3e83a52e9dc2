import java.io.IOException;
import java.lang.reflect.Method;
import java.lang.reflect.Modifier;
import java.nio.charset.StandardCharsets;
import java.nio.file.Files;
import java.nio.file.Path;
import java.util.ArrayList;
import java.util.List;
import java.util.Set;
import java.util.TreeSet;
import java.util.regex.Matcher;
import java.util.regex.Pattern;
import java.util.stream.Collectors;
import java.util.stream.Stream;

/** README.md: its program prints what it says, its commands run, its texts are read, what it names is there. */
public final class ReadmeTest {
    private static final Path PAGE = Path.of("README.md");
    private static int wrong = 0;

    public static void main(String[] args) throws IOException, InterruptedException {
        String page = Files.readString(PAGE, StandardCharsets.UTF_8);
        String program = programOf(page);
        String prose = page.replace(program, "");
        Path out = Files.createTempDirectory("readme");
        Files.writeString(out.resolve("Try.java"), program, StandardCharsets.UTF_8);
        commands(prose, out, answersOf(program));
        calls(prose);
        tests(prose);
        files(prose);
        texts(prose);
        Files.walk(out).sorted((a, b) -> b.compareTo(a)).forEach(path -> path.toFile().delete());
        System.out.println(wrong == 0 ? "the page holds" : wrong + " parts of the page do not hold");
        if (wrong != 0) {
            System.exit(1);
        }
    }

    private static void holds(boolean does, String what) {
        if (!does) {
            wrong++;
            System.out.println("README.md: " + what);
        }
    }

    private static String programOf(String page) {
        Matcher block = Pattern.compile("(?s)```java\n(.*?)```").matcher(page);
        boolean found = block.find();
        holds(found, "has no program");
        return found ? block.group(1) : "";
    }

    /** What the calls that are printed should answer, by the comments behind them. */
    private static List<String> answersOf(String program) {
        List<String> answers = new ArrayList<>();
        for (String line : program.split("\n")) {
            Matcher answer = Pattern.compile("// (-?\\d+)(:.*)?$").matcher(line);
            if (line.contains("println(war.")) {
                boolean told = answer.find();
                holds(told, "no answer is told behind " + line.trim());
                answers.add(told ? answer.group(1) : "");
            }
        }
        holds(answers.size() > 20, "the program has too few calls");
        return answers;
    }

    /** All commands but that which runs this test as well. */
    private static void commands(String prose, Path out, List<String> answers) throws IOException, InterruptedException {
        Matcher command = Pattern.compile("(?m)^    (java.*)$").matcher(prose);
        boolean tried = false;
        while (command.find()) {
            List<String> printed = new ArrayList<>();
            int code = run(command.group(1).replaceAll("\\bout\\b", out.toString()), printed);
            holds(code == 0, "'" + command.group(1) + "' ends with " + code + ": " + printed);
            if (command.group(1).endsWith(" Try")) {
                tried = true;
                holds(printed.equals(answers), "the program prints " + printed + ", told is " + answers);
            }
        }
        holds(tried, "no command runs the program");
        holds(prose.contains("\n    .ci/run\n") && Files.isExecutable(Path.of(".ci/run")), "how all tests are run");
    }

    private static int run(String command, List<String> printed) throws IOException, InterruptedException {
        Process process = new ProcessBuilder("sh", "-c", command).redirectErrorStream(true).start();
        process.getOutputStream().close();
        String text = new String(process.getInputStream().readAllBytes(), StandardCharsets.UTF_8);
        for (String line : text.split("\n")) {
            printed.add(line.trim());
        }
        return process.waitFor();
    }

    private static void calls(String prose) {
        Set<String> face = new TreeSet<>();
        for (Method method : HyphenWar.class.getDeclaredMethods()) {
            if (Modifier.isPublic(method.getModifiers())) {
                face.add(method.getName());
            }
        }
        Set<String> named = new TreeSet<>();
        Matcher call = Pattern.compile("`(\\w+)\\([^`]*\\)`").matcher(prose);
        while (call.find()) {
            named.add(call.group(1));
        }
        holds(named.equals(face), "the calls are " + face + ", named are " + named);
    }

    private static void tests(String prose) throws IOException {
        Set<String> there;
        try (Stream<Path> files = Files.list(Path.of("src/test/java"))) {
            there = files.map(file -> file.getFileName().toString().replace(".java", ""))
                    .filter(name -> name.endsWith("Test")).collect(Collectors.toCollection(TreeSet::new));
        }
        Set<String> named = new TreeSet<>();
        Matcher test = Pattern.compile("`(\\w+Test)`").matcher(prose);
        while (test.find()) {
            named.add(test.group(1));
        }
        holds(named.equals(there), "the tests are " + there + ", named are " + named);
    }

    private static void files(String prose) {
        Matcher file = Pattern.compile("`((?:\\.\\./|src/)[\\w./]+)`").matcher(prose);
        while (file.find()) {
            holds(Files.exists(Path.of(file.group(1))), file.group(1) + " is not there");
        }
    }

    /** Each clause that stands as an example, on a new object: it must have no fault. */
    private static void texts(String prose) {
        int laws = 0;
        int orders = 0;
        Matcher clause = Pattern.compile("`((reads|costs|feeds|bars|attack|shift|show|pass) [^`]*)`").matcher(prose);
        while (clause.find()) {
            HyphenWar war = new HyphenWar();
            if (Set.of("reads", "costs", "feeds", "bars").contains(clause.group(2))) {
                laws++;
                holds(Due.law(war, clause.group(1)) == 0, "'" + clause.group(1) + "' is no law");
            } else {
                orders++;
                Due.orders(war, clause.group(1));
                holds(war.fault() == HyphenWar.NONE, "'" + clause.group(1) + "' are no orders");
            }
        }
        holds(laws >= 4 && orders >= 4, "each kind of clause has an example");
    }
}

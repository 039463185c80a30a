import java.io.IOException;
import java.lang.reflect.Method;
import java.lang.reflect.Modifier;
import java.nio.file.DirectoryStream;
import java.nio.file.Files;
import java.nio.file.Path;
import java.util.ArrayList;
import java.util.List;
import java.util.Set;
import java.util.TreeSet;
import java.util.regex.Matcher;
import java.util.regex.Pattern;

/** What README.md says: its example with the answers in its comments, its table, its tests and commands. */
public final class PlanBoundsReadme {
    private static final Path README = Path.of("README.md");
    private static final Path TESTS = Path.of("src/test/java");
    private static int wrong = 0;

    private static void due(String what, Object got, Object want) {
        if (!got.equals(want)) {
            wrong++;
            System.out.println(what + " is " + got + ", due is " + want);
        }
    }

    private static void runExample() {
        // The lines of README.md's example, as they stand there.
        PlanBounds plan = new PlanBounds(4);     // weeks 0 .. 3
        int bread = plan.column(2);              // amounts, with what one of each costs
        int cake = plan.column(3);
        int need = plan.row(0, 0, 10);           // week 0: a sum of at least 10
        plan.factor(need, bread, 1);
        plan.factor(need, cake, 2);
        int answer = plan.run(100);              // 0: done, with at most 100 steps
        long upper = plan.value(0);              // 15: the bound is upper / lower
        long lower = plan.value(1);              // 1
        long made = plan.share(cake, 0);         // 5, over share(cake, 1), which is 1
        long price = plan.dual(need, 0);         // 3, over dual(need, 1), which is 2
        due("share(cake, 1)", plan.share(cake, 1), 1L);
        due("dual(need, 1)", plan.dual(need, 1), 2L);

        int pair = plan.cut(bread, cake);        // at most 1 together; comes with the next run
        int broken = plan.check();               // 2: 1 more than the number of the row not kept
        int again = plan.run(100);               // 1: a contradiction
        long taken = plan.factorOf(need, 0);     // 1, over factorOf(need, 1), which is 2
        long against = plan.factorOf(pair, 0);   // -1, over factorOf(pair, 1), which is 1
        due("factorOf(need, 1)", plan.factorOf(need, 1), 2L);
        due("factorOf(pair, 1)", plan.factorOf(pair, 1), 1L);

        boolean fits = plan.right(need, 1);      // true: another right side
        int last = plan.run(100);                // 0, and the bound is 3 / 2
        int kept = plan.check();                 // 0: all rows are kept
        int steps = plan.steps();                // 1: steps done in all
        int lines = plan.count(2);               // 2: lines in the table
        due("the last bound's upper", plan.value(0), 3L);
        due("the last bound's lower", plan.value(1), 2L);

        due("weeks", plan.count(4), 4);
        due("answer", answer, 0);
        due("upper", upper, 15L);
        due("lower", lower, 1L);
        due("made", made, 5L);
        due("price", price, 3L);
        due("broken", broken, 2);
        due("pair", pair, broken - 1);
        due("again", again, 1);
        due("taken", taken, 1L);
        due("against", against, -1L);
        due("fits", fits, true);
        due("last", last, 0);
        due("kept", kept, 0);
        due("steps", steps, 1);
        due("lines", lines, 2);
    }

    /** The lines of all blocks of one language, without empty ones. */
    private static List<String> blockOf(String readme, String language) {
        List<String> lines = new ArrayList<>();
        Matcher block = Pattern.compile("(?s)```" + language + "\n(.*?)```").matcher(readme);
        while (block.find()) {
            for (String line : block.group(1).split("\n")) {
                if (!line.isBlank()) {
                    lines.add(line.strip());
                }
            }
        }
        due("README.md has a block in " + language, lines.isEmpty(), false);
        return lines;
    }

    /** The example of README.md must be the one that runs here, line by line and in this order. */
    private static void lookAtExample(String readme) throws IOException {
        List<String> here = new ArrayList<>();
        for (String line : Files.readAllLines(TESTS.resolve("PlanBoundsReadme.java"))) {
            here.add(line.strip());
        }
        int at = 0;
        for (String line : blockOf(readme, "java")) {
            int found = here.subList(at, here.size()).indexOf(line);
            due("\"" + line + "\" is run", found >= 0, true);
            at += found + 1;
        }
    }

    private static void lookAtTable(String readme) {
        Set<String> named = new TreeSet<>();
        Matcher row = Pattern.compile("(?m)^\\| `(\\w+)\\(([^)]*)\\)` \\|").matcher(readme);
        while (row.find()) {
            int parameters = row.group(2).isEmpty() ? 0 : row.group(2).split(",").length;
            named.add(row.group(1) + " " + parameters);
        }
        Set<String> face = new TreeSet<>(Set.of("PlanBounds 1"));
        for (Method m : PlanBounds.class.getDeclaredMethods()) {
            if (Modifier.isPublic(m.getModifiers())) {
                face.add(m.getName() + " " + m.getParameterCount());
            }
        }
        due("the calls in README.md's table", named, face);
    }

    private static void lookAtTests(String readme) throws IOException {
        Set<String> named = new TreeSet<>();
        Matcher item = Pattern.compile("(?m)^- `(PlanBounds\\w+)`:").matcher(readme);
        while (item.find()) {
            named.add(item.group(1));
        }
        Set<String> there = new TreeSet<>();
        try (DirectoryStream<Path> files = Files.newDirectoryStream(TESTS, "*.java")) {
            for (Path file : files) {
                there.add(file.getFileName().toString().replace(".java", ""));
            }
        }
        due("the tests in README.md's list", named, there);
        due(".ci/run can be run", Files.isExecutable(Path.of(".ci/run")), true);
    }

    /** The commands for one test by itself, with a folder of their own in place of the one named there. */
    private static void runCommands(String readme) throws IOException, InterruptedException {
        Path folder = Files.createTempDirectory("plan");
        for (String line : blockOf(readme, "sh")) {
            String command = line.replace("/tmp/plan", folder.toString());
            due("\"" + line + "\" names the folder", command.equals(line), false);
            Process process = new ProcessBuilder("sh", "-c", command)
                    .redirectErrorStream(true)
                    .redirectOutput(folder.resolve("output").toFile())
                    .start();
            int code = process.waitFor();
            due("the exit code of \"" + line + "\"", code, 0);
            if (code != 0) {
                System.out.println(Files.readString(folder.resolve("output")));
            }
        }
        try (DirectoryStream<Path> files = Files.newDirectoryStream(folder)) {
            for (Path file : files) {
                Files.delete(file);
            }
        }
        Files.delete(folder);
    }

    public static void main(String[] args) throws IOException, InterruptedException {
        String readme = Files.readString(README);
        runExample();
        lookAtExample(readme);
        lookAtTable(readme);
        lookAtTests(readme);
        runCommands(readme);
        System.out.println(wrong == 0 ? "README.md is true" : wrong + " things are not as due");
        if (wrong != 0) {
            System.exit(1);
        }
    }
}

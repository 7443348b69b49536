import java.io.IOException;
import java.lang.reflect.Modifier;
import java.nio.charset.StandardCharsets;
import java.nio.file.Files;
import java.nio.file.Path;
import java.util.ArrayList;
import java.util.Comparator;
import java.util.List;
import java.util.TreeSet;
import java.util.regex.Matcher;
import java.util.regex.Pattern;
import java.util.stream.Stream;

/** README.md: its commands are run, its example prints what is told, its tables hold. */
public final class ReadmeTest {
    private static final Due DUE = new Due("ReadmeTest");
    private static final Path PROGRAM = Path.of("src/main/java/SugarLoop.java");
    private static final Path TESTS = Path.of("src/test/java");

    public static void main(String[] args) throws Exception {
        String page = Files.readString(Path.of("README.md"));
        Path folder = Files.createTempDirectory("readme");
        try {
            example(page, folder);
            oneTest(page, folder);
        } finally {
            remove(folder);
        }
        refusals(page);
        faults(page);
        allTests(page);
        DUE.end();
    }

    /** The example prints, line by line, what stands below it. */
    private static void example(String page, Path folder) throws Exception {
        copy(PROGRAM, folder);
        Files.writeString(folder.resolve("Tea.java"), blocks(page, "java").get(0));
        List<String> got = run(blocks(page, "sh").get(0), folder);
        List<String> told = lines(blocks(page, "text").get(0));
        DUE.is("lines that the example prints", got.size(), told.size());
        DUE.holds("README.md tells answers", told.size() > 10);
        for (int line = 0; line < Math.min(got.size(), told.size()); line++) {
            DUE.holds("the example prints '" + got.get(line) + "', README.md tells '" + told.get(line) + "'",
                got.get(line).equals(told.get(line)));
        }
    }

    /** What is told of running one test runs it. */
    private static void oneTest(String page, Path folder) throws Exception {
        DUE.holds("all tests run by .ci/run", blocks(page, "sh").get(1).equals(".ci/run\n"));
        DUE.holds(".ci/run can be run", Files.isExecutable(Path.of(".ci/run")));
        try (Stream<Path> files = Files.list(TESTS)) {
            for (Path file : files.toList()) {
                copy(file, folder);
            }
        }
        List<String> got = run(blocks(page, "sh").get(2), folder);
        DUE.holds("a test by itself prints " + got, got.size() == 1 && got.get(0).endsWith(" 0 are not"));
    }

    /** The table of refusals has all constants but those that are told beside it. */
    private static void refusals(String page) throws Exception {
        TreeSet<String> told = new TreeSet<>(List.of("NONE", "LOST"));
        Matcher row = Pattern.compile("(?m)^\\| `([A-Z]+)` \\| (-\\d) \\| \\w").matcher(page);
        while (row.find()) {
            told.add(row.group(1));
            DUE.is(row.group(1), SugarLoop.class.getField(row.group(1)).getInt(null), Integer.parseInt(row.group(2)));
        }
        TreeSet<String> constants = new TreeSet<>();
        for (java.lang.reflect.Field field : SugarLoop.class.getDeclaredFields()) {
            if (Modifier.isPublic(field.getModifiers())) {
                constants.add(field.getName());
            }
        }
        DUE.holds("README.md tells of " + told, told.equals(constants));
        DUE.holds("NONE is told", page.contains("`NONE` (" + SugarLoop.NONE + ")"));
    }

    /** The table of faults, each by a call that comes to it. */
    private static void faults(String page) {
        String[] names = {"NULL", "CAST", "INDEX", "SIZE"};
        SugarLoop x = new SugarLoop();
        x.sheet(0, 0, 1);
        for (int fault = 1; fault <= 4; fault++) {
            int answer = fault == 1 ? x.put(1, 0, 0) : fault == 2 ? x.hall(0, 1, 0, 0)
                : fault == 3 ? x.put(0, 1, 0) : x.sheet(0, 0, -1);
            DUE.is(names[fault - 1], x.fault(), fault);
            DUE.holds(names[fault - 1] + " is told with " + answer + " and " + fault,
                page.contains("| `" + names[fault - 1] + "` | " + answer + " | " + fault + " |"));
        }
    }

    /** The table of tests has all tests that there are, and no other. */
    private static void allTests(String page) throws IOException {
        TreeSet<String> told = new TreeSet<>();
        Matcher row = Pattern.compile("(?m)^\\| (`\\w+Test`[^|]*)\\|").matcher(page);
        while (row.find()) {
            Matcher name = Pattern.compile("\\w+Test").matcher(row.group(1));
            while (name.find()) {
                told.add(name.group() + ".java");
            }
        }
        TreeSet<String> tests = new TreeSet<>();
        try (Stream<Path> files = Files.list(TESTS)) {
            files.map(file -> file.getFileName().toString()).filter(name -> name.endsWith("Test.java"))
                .forEach(tests::add);
        }
        DUE.holds("README.md tells of " + told + ", there are " + tests, told.equals(tests));
    }

    /** What stands in the blocks of a language, in their order. */
    private static List<String> blocks(String page, String language) {
        List<String> found = new ArrayList<>();
        Matcher block = Pattern.compile("(?s)\n```" + language + "\n(.*?)```\n").matcher(page);
        while (block.find()) {
            found.add(block.group(1));
        }
        return found;
    }

    private static List<String> lines(String text) {
        return text.lines().toList();
    }

    /** Commands, one a line, as they are told: what they print. */
    private static List<String> run(String commands, Path folder) throws Exception {
        List<String> printed = new ArrayList<>();
        for (String command : lines(commands)) {
            Process process = new ProcessBuilder(command.split(" ")).directory(folder.toFile())
                .redirectError(ProcessBuilder.Redirect.INHERIT).start();
            String text = new String(process.getInputStream().readAllBytes(), StandardCharsets.UTF_8);
            DUE.is("'" + command + "' ends with", process.waitFor(), 0);
            printed.addAll(lines(text));
        }
        return printed;
    }

    private static void copy(Path file, Path folder) throws IOException {
        Files.createDirectories(folder.resolve(file).getParent());
        Files.copy(file, folder.resolve(file));
    }

    private static void remove(Path folder) throws IOException {
        try (Stream<Path> files = Files.walk(folder)) {
            for (Path file : files.sorted(Comparator.reverseOrder()).toList()) {
                Files.delete(file);
            }
        }
    }
}

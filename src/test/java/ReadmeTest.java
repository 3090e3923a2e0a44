import java.io.File;
import java.io.IOException;
import java.lang.reflect.Method;
import java.lang.reflect.Modifier;
import java.nio.file.Files;
import java.nio.file.Path;
import java.util.ArrayList;
import java.util.Comparator;
import java.util.List;
import java.util.regex.Matcher;
import java.util.regex.Pattern;
import java.util.stream.Stream;

/** README.md: its examples compile and answer as it says, its commands work, it names every call and test. */
public final class ReadmeTest {
    private static final Path PAGE = Path.of("README.md");
    private static final Pattern ANSWERED = Pattern.compile("(x\\.\\w+\\(.*?\\)); *// (-?\\d+)\\b.*");
    private static final String ALL_TESTS = ".ci/run";

    private static int wrong = 0;

    public static void main(String[] args) throws IOException, InterruptedException {
        String page = Files.readString(PAGE);
        Path place = Files.createTempDirectory("readme");
        try {
            int answers = examples(blocks(page, "java"), Files.createDirectory(place.resolve("examples")));
            int commands = commands(blocks(page, "sh"), Files.createDirectory(place.resolve("main")));
            names(page);
            System.out.println(wrong == 0
                    ? answers + " answers and " + commands + " commands of README.md are as due"
                    : wrong + " faults in README.md");
        } finally {
            remove(place);
        }
        if (wrong != 0) {
            System.exit(1);
        }
    }

    private static void check(boolean isSo, String what) {
        if (!isSo) {
            wrong++;
            System.out.println("README.md: " + what);
        }
    }

    /** The lines of all blocks of that language, in their order: a later block goes on from those before it. */
    private static List<String> blocks(String page, String language) {
        List<String> lines = new ArrayList<>();
        Matcher block = Pattern.compile("(?ms)^```" + language + "\\n(.*?)^```$").matcher(page);
        while (block.find()) {
            lines.addAll(List.of(block.group(1).split("\n")));
        }
        return lines;
    }

    /** The examples become one program, in which each answer told behind a call is looked at. */
    private static int examples(List<String> lines, Path place) throws IOException, InterruptedException {
        StringBuilder program = new StringBuilder("public final class Examples {\n"
                + "    static int wrong = 0;\n"
                + "    static void due(String call, long got, long want) {\n"
                + "        if (got != want) { wrong++; System.out.println(call + \" answered \" + got); }\n"
                + "    }\n"
                + "    public static void main(String[] args) {\n");
        int answers = 0;
        for (String line : lines) {
            Matcher answered = ANSWERED.matcher(line);
            if (answered.matches()) {
                answers++;
                String call = answered.group(1);
                program.append("due(\"" + call + "\", " + call + ", " + answered.group(2) + "L);\n");
            } else {
                check(!line.startsWith("x."), "no answer is told: " + line);
                program.append(line).append('\n');
            }
        }
        program.append("        if (wrong != 0) { System.exit(1); }\n    }\n}\n");
        Path file = place.resolve("Examples.java");
        Files.writeString(file, program);
        String classes = System.getProperty("java.class.path");
        boolean isCompiled = isRun(Path.of("."), "javac", "--release", "17", "-cp", classes, "-d", place.toString(),
                file.toString());
        check(isCompiled, "the examples do not compile");
        check(isCompiled && isRun(Path.of("."), "java", "-cp", classes + File.pathSeparator + place, "Examples"),
                "the examples do not answer as it says");
        check(answers > 0, "no example tells an answer");
        return answers;
    }

    /** The commands are run in a copy, so that they meet a clean checkout and leave nothing in this one. */
    private static int commands(List<String> lines, Path copy) throws IOException, InterruptedException {
        copy(Path.of("src"), copy.resolve("src"));
        Path shared = Path.of("../shared").toAbsolutePath().normalize();
        Files.createSymbolicLink(copy.resolveSibling("shared"), shared);
        for (String line : lines) {
            if (line.equals(ALL_TESTS)) {
                // This test is a part of it: to run it here would not end.
                check(Files.isExecutable(Path.of(ALL_TESTS)), ALL_TESTS + " can not be run");
            } else {
                check(isRun(copy, "bash", "-c", line), "the command fails: " + line);
            }
        }
        check(lines.contains(ALL_TESTS), "it does not say how to run all tests");
        return lines.size();
    }

    private static void names(String page) throws IOException {
        for (Method m : OnlyStrangersHear.class.getDeclaredMethods()) {
            if (Modifier.isPublic(m.getModifiers())) {
                check(Pattern.compile("\\b" + m.getName() + "(\\(|`)").matcher(page).find(), m.getName() + " is left out");
            }
        }
        try (Stream<Path> files = Files.list(Path.of("src/test/java"))) {
            for (Path file : files.toList()) {
                String name = file.getFileName().toString().replace(".java", "");
                check(page.contains("`" + name + "`"), name + " is left out");
            }
        }
        Matcher test = Pattern.compile("`(\\w+Test)`").matcher(page);
        while (test.find()) {
            check(Files.exists(Path.of("src/test/java/" + test.group(1) + ".java")), "there is no " + test.group(1));
        }
    }

    private static boolean isRun(Path folder, String... command) throws IOException, InterruptedException {
        Process process = new ProcessBuilder(command).directory(folder.toFile()).redirectErrorStream(true).start();
        String said = new String(process.getInputStream().readAllBytes());
        boolean isFine = process.waitFor() == 0;
        if (!isFine) {
            System.out.print(said);
        }
        return isFine;
    }

    private static void copy(Path from, Path to) throws IOException {
        try (Stream<Path> files = Files.walk(from)) {
            for (Path file : files.toList()) {
                Files.copy(file, to.resolve(from.relativize(file).toString()));
            }
        }
    }

    private static void remove(Path place) throws IOException {
        try (Stream<Path> files = Files.walk(place)) {
            for (Path file : files.sorted(Comparator.reverseOrder()).toList()) {
                Files.delete(file);
            }
        }
    }
}

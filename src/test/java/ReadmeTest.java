import java.io.IOException;
import java.lang.reflect.Method;
import java.lang.reflect.Modifier;
import java.nio.charset.StandardCharsets;
import java.nio.file.Files;
import java.nio.file.Path;
import java.util.ArrayList;
import java.util.Comparator;
import java.util.List;
import java.util.regex.Matcher;
import java.util.regex.Pattern;
import java.util.stream.Stream;

/**
 * README.md followed to the letter, in a copy of the project as it would be checked out: its
 * program is saved and run, its commands are given, what it names is there. Run at the project's root.
 */
public final class ReadmeTest {
    private static final String ALL_TESTS = ".ci/run";
    private static int wrong = 0;

    private static void holds(boolean so, String what) {
        if (!so) {
            wrong++;
            System.out.println("README.md: " + what);
        }
    }

    public static void main(String[] args) throws IOException, InterruptedException {
        String page = Files.readString(Path.of("README.md"));
        Path copy = Files.createTempDirectory("readme");
        try {
            copySources(copy);
            follow(page, copy);
        } finally {
            delete(copy);
        }
        namesAllCalls(page);
        namesAllTests(page);
        namesWhatIsThere(page);
        System.out.println(wrong == 0 ? "README.md is so" : wrong + " things in README.md are not so");
        if (wrong != 0) {
            System.exit(1);
        }
    }

    private static void follow(String page, Path copy) throws IOException, InterruptedException {
        List<String> programs = blocks(page, "java");
        holds(programs.size() == 1, "one program, but there are " + programs.size());
        String program = programs.isEmpty() ? "" : programs.get(0);
        Files.writeString(copy.resolve("Example.java"), program);
        List<String> printed = new ArrayList<>();
        boolean saysHowToTest = false;
        for (String commands : blocks(page, "sh")) {
            if (commands.strip().equals(ALL_TESTS)) {
                // It runs this test too: here it is enough that it can be run.
                saysHowToTest = true;
                continue;
            }
            List<String> lines = give(commands, copy);
            if (commands.contains("Example")) {
                printed = lines;
            }
        }
        holds(saysHowToTest && Files.isExecutable(Path.of(ALL_TESTS)), "how all tests are run");
        List<String> told = answersTold(program);
        holds(told.size() > 10, "answers behind the calls of the program");
        holds(printed.equals(told), "the program answers " + printed + ", told are " + told);
    }

    /** The number behind each printed call. */
    private static List<String> answersTold(String program) {
        List<String> told = new ArrayList<>();
        for (String line : program.split("\n")) {
            if (line.contains("println")) {
                Matcher answer = Pattern.compile("// (-?\\d+): ").matcher(line);
                told.add(answer.find() ? answer.group(1) : "nothing behind " + line.strip());
            }
        }
        return told;
    }

    private static List<String> blocks(String page, String kind) {
        List<String> blocks = new ArrayList<>();
        Matcher block = Pattern.compile("(?s)```" + kind + "\n(.*?)```").matcher(page);
        while (block.find()) {
            blocks.add(block.group(1));
        }
        return blocks;
    }

    private static List<String> give(String commands, Path at) throws IOException, InterruptedException {
        Process process = new ProcessBuilder("sh", "-e", "-c", commands)
            .directory(at.toFile()).redirectError(ProcessBuilder.Redirect.INHERIT).start();
        String printed = new String(process.getInputStream().readAllBytes(), StandardCharsets.UTF_8);
        int end = process.waitFor();
        holds(end == 0, commands.strip() + " ended with " + end + ": " + printed);
        return printed.lines().toList();
    }

    private static void namesAllCalls(String page) {
        for (Method method : CutTrail.class.getDeclaredMethods()) {
            if (Modifier.isPublic(method.getModifiers())) {
                holds(page.contains("`" + method.getName() + "("), "says nothing of " + method.getName());
            }
        }
    }

    private static void namesAllTests(String page) throws IOException {
        try (Stream<Path> files = Files.list(Path.of("src/test/java"))) {
            for (Path file : files.toList()) {
                String name = file.getFileName().toString().replace(".java", "");
                holds(page.contains("- `" + name + "`"), "says nothing of " + name);
            }
        }
    }

    /** Files and folders that are named, and the classes inside. */
    private static void namesWhatIsThere(String page) {
        Matcher path = Pattern.compile("`((?:\\.\\./shared|src|\\.ci)/[\\w./]+)`").matcher(page);
        while (path.find()) {
            holds(Files.exists(Path.of(path.group(1))), "there is no " + path.group(1));
        }
        for (Class<?> inside : CutTrail.class.getDeclaredClasses()) {
            holds(page.contains("`" + inside.getSimpleName() + "`"), "says nothing of " + inside.getSimpleName());
        }
    }

    private static void copySources(Path to) throws IOException {
        try (Stream<Path> files = Files.walk(Path.of("src"))) {
            for (Path file : files.toList()) {
                Files.copy(file, to.resolve(file.toString()));
            }
        }
    }

    private static void delete(Path from) throws IOException {
        try (Stream<Path> files = Files.walk(from)) {
            for (Path file : files.sorted(Comparator.reverseOrder()).toList()) {
                Files.delete(file);
            }
        }
    }
}

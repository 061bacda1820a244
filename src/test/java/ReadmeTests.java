import java.nio.file.Files;
import java.nio.file.Path;
import java.util.ArrayList;
import java.util.Comparator;
import java.util.List;
import java.util.stream.Stream;

/** README.md, word for word: what it prints of the example, what its commands answer, what it names. */
final class ReadmeTests {
    private static final String COMMANDS = "sh\n";
    private static final String PRINTED = "text\n";
    private static final String EXIT_CODE = "exit code ";
    private static final Path README = Path.of("README.md");
    private static final Path EXAMPLE = Path.of("example/Example.java");
    private static final Path CLASS = Path.of("src/main/java/CardPort.java");
    private static final Path TESTS = Path.of("src/test/java");
    private static final Path SHARED_TESTS = Path.of("../shared/tests");

    private ReadmeTests() {
    }

    static void run() throws Exception {
        List<String> lines = Files.readAllLines(README);
        List<String> blocks = blocksOf(lines);
        Check.that("README.md has the example as it stands", blocks.contains("java\n" + Files.readString(EXAMPLE)));
        Check.that("README.md has the command that runs all tests", blocks.contains(COMMANDS + "bash .ci/run\n"));
        printsWhatItSays(blocks);
        runsOneSharedTest(blocks);
        namesEveryCall(String.join("\n", lines));
        namesEveryTest(String.join("\n", lines));
    }

    /** Commands are done, if a block of what they print is right behind them. */
    private static void printsWhatItSays(List<String> blocks) throws Exception {
        int done = 0;
        for (int i = 0; i + 1 < blocks.size(); i++) {
            if (blocks.get(i).startsWith(COMMANDS) && blocks.get(i + 1).startsWith(PRINTED)) {
                String commands = blocks.get(i).substring(COMMANDS.length());
                Check.same("README.md: " + commands, printedBy(commands), blocks.get(i + 1).substring(PRINTED.length()));
                done++;
            }
        }
        Check.same("commands of README.md with what they print", done, 1);
    }

    /** The tests under ../shared may get other names: then the commands are no fault of the class. */
    private static void runsOneSharedTest(List<String> blocks) throws Exception {
        for (String block : blocks) {
            if (!block.startsWith(COMMANDS) || !block.contains(SHARED_TESTS + "/")) {
                continue;
            }
            String commands = block.substring(COMMANDS.length());
            String file = commands.substring(commands.indexOf(SHARED_TESTS + "/")).split("\\s")[0];
            if (Files.exists(Path.of(file))) {
                String printed = printedBy(commands);
                Check.that("README.md: " + commands + printed, !printed.contains(EXIT_CODE));
            } else {
                System.out.println("README.md names " + file + ", which is not there");
            }
        }
    }

    /** Each begins with its language, then its lines. */
    private static List<String> blocksOf(List<String> lines) {
        List<String> blocks = new ArrayList<>();
        StringBuilder block = null;
        for (String line : lines) {
            boolean isMark = line.startsWith("```");
            if (isMark && block == null) {
                block = new StringBuilder(line.substring(3)).append('\n');
            } else if (isMark) {
                blocks.add(block.toString());
                block = null;
            } else if (block != null) {
                block.append(line).append('\n');
            }
        }
        return blocks;
    }

    /** What the commands print in a folder that has only what a clean checkout has for them. */
    private static String printedBy(String commands) throws Exception {
        Path folder = Files.createTempDirectory("readme");
        try {
            Path checkout = folder.resolve("checkout");
            copy(CLASS, checkout);
            copy(EXAMPLE, checkout);
            Path sharedTests = checkout.resolve(SHARED_TESTS).normalize();
            Files.createDirectories(sharedTests.getParent());
            Files.createSymbolicLink(sharedTests, SHARED_TESTS.toRealPath());
            Process process = new ProcessBuilder("bash", "-e", "-c", commands)
                    .directory(checkout.toFile()).redirectError(ProcessBuilder.Redirect.INHERIT).start();
            String printed = new String(process.getInputStream().readAllBytes());
            return process.waitFor() == 0 ? printed : printed + EXIT_CODE + process.exitValue();
        } finally {
            remove(folder);
        }
    }

    private static void copy(Path file, Path checkout) throws Exception {
        Files.createDirectories(checkout.resolve(file).getParent());
        Files.copy(file, checkout.resolve(file));
    }

    private static void remove(Path folder) throws Exception {
        try (Stream<Path> all = Files.walk(folder)) {
            for (Path each : all.sorted(Comparator.reverseOrder()).toList()) {
                Files.delete(each);
            }
        }
    }

    private static void namesEveryCall(String readme) {
        for (String call : SourceTests.callsOfTheFace()) {
            Check.that("README.md tells the call " + call, readme.contains("\n| `" + call + "` | "));
        }
    }

    private static void namesEveryTest(String readme) throws Exception {
        try (Stream<Path> all = Files.list(TESTS)) {
            for (Path each : all.toList()) {
                String name = each.getFileName().toString().replace(".java", "");
                Check.that("README.md names " + name, readme.contains("`" + name + "`"));
            }
        }
        for (String line : readme.split("\n")) {
            if (line.matches("\\| `[A-Z]\\w+(Tests|Sentences)` \\|.*")) {
                String name = line.split("`")[1];
                Check.that("there is the test " + name, Files.exists(TESTS.resolve(name + ".java")));
            }
        }
    }
}

import java.nio.file.Files;
import java.nio.file.Path;
import java.util.List;

/** A few rules of LANGUAGE.md that the source's text shows. */
final class SourceTests {
    private static final List<String> IMPORTS = List.of("import java.util.ArrayList;", "import java.util.List;");
    private static final String[] BANNED = {
        "package ", "->", "::", "catch", "finally", "synchronized", "assert ", "Exact(", "Object", "System.",
        "Thread", "Random", ".hashCode", ".toString", "getMessage", "Optional", "Map<", "stream(", "protected "
    };

    private SourceTests() {
    }

    static void run(String path) throws Exception {
        List<String> lines = Files.readAllLines(Path.of(path));
        for (String line : lines) {
            Check.that("an import that is listed: " + line, !line.startsWith("import ") || IMPORTS.contains(line));
            if (line.trim().startsWith("//") || line.trim().startsWith("/**")) {
                continue;
            }
            for (String word : BANNED) {
                Check.that("without '" + word + "': " + line, !line.contains(word));
            }
            Check.that("only signs 1 to 127: " + line, line.chars().allMatch(sign -> sign >= 1 && sign <= 127));
        }
    }
}

import java.nio.file.Files;
import java.nio.file.Path;
import java.util.List;

/** A few rules of LANGUAGE.md that the source's text shows. */
final class SourceTests {
    private static final List<String> IMPORTS = List.of("import java.util.ArrayList;", "import java.util.List;");
    private static final String[] BANNED = {
        "package ", "->", "::", "catch", "finally", "synchronized", "assert ", "Exact(", "Object", "System.",
        "Thread", "Random", ".hashCode", ".toString", "getMessage", "Optional", "Map<", "stream(", "protected "
    };

    private SourceTests() {
    }

    static void run(String path) throws Exception {
        List<String> lines = Files.readAllLines(Path.of(path));
        for (String line : lines) {
            Check.that("an import that is listed: " + line, !line.startsWith("import ") || IMPORTS.contains(line));
            if (line.trim().startsWith("//") || line.trim().startsWith("/**")) {
                continue;
            }
            for (String word : BANNED) {
                Check.that("without '" + word + "': " + line, !line.contains(word));
            }
            Check.that("only signs 1 to 127: " + line, line.chars().allMatch(sign -> sign >= 1 && sign <= 127));
        }
        partsOfTheInterface(lines);
    }

    private static void partsOfTheInterface(List<String> lines) {
        part(lines, "shops, payments, captures", "shop", "kind", "authorise", "capture", "cancel");
        part(lines, "given back", "refund", "dispute", "answer", "press", "rule", "pass");
        part(lines, "asking", "paymentOf", "captureOf", "chargebackOf", "limit", "net", "netAnew", "due", "count");
    }

    /** The part's heading, and behind it these calls as the next public ones. */
    private static void part(List<String> lines, String heading, String... calls) {
        Document.quote("Terms", "Ahead of the calls `" + String.join("`, `", calls) + "` the interface says: ---- " + heading + ".");
        int at = lines.indexOf("    // ---- " + heading);
        Check.that("the source says: ---- " + heading, at >= 0);
        List<String> behind = lines.subList(at + 1, lines.size()).stream()
                .filter(line -> line.startsWith("    public ")).map(line -> line.trim().split("[ (]")[2]).toList();
        Check.same("the calls behind " + heading, behind.subList(0, calls.length), List.of(calls));
    }
}

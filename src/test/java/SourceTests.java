import java.nio.file.Files;
import java.nio.file.Path;
import java.util.ArrayList;
import java.util.List;

/** A few rules of LANGUAGE.md that the source's text shows, and the face as the document writes it. */
final class SourceTests {
    private static final List<String> IMPORTS = List.of("import java.util.ArrayList;", "import java.util.List;");
    private static final String[] BANNED = {
        "package ", "->", "::", "catch", "finally", "synchronized", "assert ", "Exact(", "Object", "System.",
        "Thread", "Random", ".hashCode", ".toString", "getMessage", "Optional", "Map<", "stream(", "protected "
    };

    /** The document's section 'The public face', word for word. */
    private static final List<String> FACE = List.of(
            "public final class CardPort {",
            "public static final int NONE = -1;",
            "public static final int OPEN = 0, ANSWERED = 1, PRESSED = 2, WON = 3, LOST = 4;",
            "public CardPort();",
            "public int shop(int shop, int kind) throws IndexOutOfBoundsException;",
            "public int kind(int kind, int rate, int cap) throws IndexOutOfBoundsException, IllegalArgumentException;",
            "public int authorise(int card, int shop, int amount) throws IndexOutOfBoundsException, IllegalArgumentException, IllegalStateException;",
            "public int capture(int payment, int amount) throws IndexOutOfBoundsException, IllegalArgumentException, IllegalStateException;",
            "public int cancel(int payment) throws IndexOutOfBoundsException, IllegalStateException;",
            "public int refund(int capture, int amount) throws IndexOutOfBoundsException, IllegalArgumentException, IllegalStateException;",
            "public int dispute(int capture, int amount) throws IndexOutOfBoundsException, IllegalArgumentException, IllegalStateException;",
            "public int answer(int chargeback) throws IndexOutOfBoundsException, IllegalStateException;",
            "public int press(int chargeback) throws IndexOutOfBoundsException, IllegalStateException;",
            "public int rule(int chargeback, boolean isForCard) throws IndexOutOfBoundsException, IllegalStateException;",
            "public int pass(int days) throws IllegalArgumentException;",
            "public int paymentOf(int payment, int what) throws IndexOutOfBoundsException, IllegalArgumentException;",
            "public int captureOf(int capture, int what) throws IndexOutOfBoundsException, IllegalArgumentException;",
            "public int chargebackOf(int chargeback, int what) throws IndexOutOfBoundsException, IllegalArgumentException;",
            "public int limit(int card) throws IndexOutOfBoundsException;",
            "public long net(int bank, boolean isAll) throws IndexOutOfBoundsException;",
            "public long netAnew(int bank) throws IndexOutOfBoundsException;",
            "public int due(int rank) throws IndexOutOfBoundsException;",
            "public int count(int what) throws IllegalArgumentException;");

    private SourceTests() {
    }

    static void run(String path) throws Exception {
        List<String> lines = Files.readAllLines(Path.of(path));
        faceIsAsWritten(lines);
        for (String line : lines) {
            Check.that("an import that is listed: " + line, !line.startsWith("import ") || IMPORTS.contains(line));
            if (line.trim().startsWith("//") || line.trim().startsWith("/**")) {
                continue;
            }
            for (String word : BANNED) {
                Check.that("without '" + word + "': " + line, !line.contains(word));
            }
            Check.that("only signs 1 to 127: " + line, line.chars().allMatch(sign -> sign >= 1 && sign <= 127));
        }
        partsOfTheInterface(lines);
        methodsAreShort(lines);
    }

    /** LANGUAGE.md, rule 11. */
    private static void methodsAreShort(List<String> lines) {
        int from = 0;
        for (int i = 0; i < lines.size(); i++) {
            if (lines.get(i).matches(" {4}\\S.* \\{| {8}\\S.*\\) \\{")) {
                from = i;
            } else if (lines.get(i).matches(" {4,8}}")) {
                Check.that("rule 11: some sixty lines behind " + lines.get(from), i - from < 60);
            }
        }
    }

    /** Nothing that is public but the document's lines, in their order, with bodies. */
    private static void faceIsAsWritten(List<String> lines) {
        List<String> written = new ArrayList<>();
        for (String line : lines) {
            if (line.trim().startsWith("public ")) {
                boolean isBody = line.endsWith(") {") || line.endsWith("Exception {");
                written.add(isBody ? line.trim().replace(" {", ";") : line.trim());
            }
        }
        Check.same("the face in the source", String.join("\n", written), String.join("\n", FACE));
        for (String line : FACE) {
            Document.quote("The public face", line);
        }
    }

    /** The calls of the face with the names of their arguments, such as "shop(shop, kind)". */
    static List<String> callsOfTheFace() {
        List<String> calls = new ArrayList<>();
        for (String line : FACE) {
            if (line.contains(") throws ")) {
                String[] parts = line.substring("public ".length(), line.indexOf(')')).split("[(]");
                calls.add(parts[0].split(" ")[1] + "(" + parts[1].replaceAll("(int|boolean) ", "") + ")");
            }
        }
        return calls;
    }

    private static void partsOfTheInterface(List<String> lines) {
        part(lines, "shops, payments, captures", "shop", "kind", "authorise", "capture", "cancel");
        part(lines, "given back", "refund", "dispute", "answer", "press", "rule", "pass");
        part(lines, "asking", "paymentOf", "captureOf", "chargebackOf", "limit", "net", "netAnew", "due", "count");
    }

    /** The part's heading, and behind it these calls as the next public ones. */
    private static void part(List<String> lines, String heading, String... calls) {
        Document.quote("Terms", "Ahead of the calls `" + String.join("`, `", calls) + "` the interface says: ---- " + heading + ".");
        int at = lines.indexOf("    // ---- " + heading);
        Check.that("the source says: ---- " + heading, at >= 0);
        List<String> behind = lines.subList(at + 1, lines.size()).stream()
                .filter(line -> line.startsWith("    public ")).map(line -> line.trim().split("[ (]")[2]).toList();
        Check.same("the calls behind " + heading, behind.subList(0, calls.length), List.of(calls));
    }
}

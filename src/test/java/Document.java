import java.nio.file.Files;
import java.nio.file.Path;
import java.util.ArrayList;
import java.util.List;
import java.util.Map;
import java.util.Set;
import java.util.TreeMap;
import java.util.TreeSet;

/** The sentences, and the lines of the face, that tests quote: each must stand in the document, and each of the document must be quoted. */
final class Document {
    private static final String FACE = "The public face";
    private static final Map<String, Set<String>> quotes = new TreeMap<>();

    private Document() {
    }

    static void quote(String section, String sentence) {
        quotes.computeIfAbsent(section, key -> new TreeSet<>()).add(sentence);
    }

    static void check(Path path) throws Exception {
        if (!Files.exists(path)) {
            System.out.println("no file " + path + ": the quoted sentences are not compared with it");
            return;
        }
        Map<String, List<String>> sentences = sentencesOf(Files.readAllLines(path));
        for (Map.Entry<String, List<String>> section : sentences.entrySet()) {
            Set<String> quoted = quotes.getOrDefault(section.getKey(), Set.of());
            for (String sentence : section.getValue()) {
                Check.that(section.getKey() + ": a test quotes '" + sentence + "'",
                        quoted.stream().anyMatch(sentence::contains));
            }
        }
        for (Map.Entry<String, Set<String>> section : quotes.entrySet()) {
            List<String> written = sentences.getOrDefault(section.getKey(), List.of());
            for (String quote : section.getValue()) {
                Check.that(section.getKey() + ": the document says '" + quote + "'",
                        written.stream().anyMatch(sentence -> sentence.contains(quote)));
            }
        }
    }

    /** By sections: 'Promise 7', or the whole heading. */
    private static Map<String, List<String>> sentencesOf(List<String> lines) {
        Map<String, List<String>> sentences = new TreeMap<>();
        String section = "";
        boolean isCode = false;
        for (String line : lines) {
            isCode ^= line.startsWith("```");
            if (line.startsWith("## ")) {
                section = line.substring(3).split(":")[0];
            } else if (section.equals(FACE) && isCode && isLineOfTheFace(line)) {
                sentences.computeIfAbsent(FACE, key -> new ArrayList<>()).add(line.trim());
            } else if (isTold(section) && !isCode && isSentence(line)) {
                sentences.computeIfAbsent(section, key -> new ArrayList<>()).addAll(List.of(line.split("(?<=\\.) ")));
            }
        }
        return sentences;
    }

    private static boolean isTold(String section) {
        return section.equals("What it is") || section.equals("Terms") || section.startsWith("Promise ");
    }

    private static boolean isLineOfTheFace(String line) {
        return !line.startsWith("```") && !line.equals("}");
    }

    /** Not the headings of paragraphs, and not "Returns that.", which says nothing. */
    private static boolean isSentence(String line) {
        return (line.contains(".") || line.contains(":") || line.startsWith("Throws")) && !line.equals("Returns that.");
    }
}

import java.io.IOException;
import java.nio.file.Files;
import java.nio.file.Path;
import java.util.ArrayList;
import java.util.LinkedHashMap;
import java.util.LinkedHashSet;
import java.util.List;
import java.util.Map;
import java.util.Set;

/** The document, cut into sections and these into sentences, and which of them have a test. */
final class Document {
    private static final String LAST = "Not promised";

    private final Map<String, List<String>> sentences = new LinkedHashMap<>();
    private final List<String> faceLines = new ArrayList<>();
    private final Set<String> touched = new LinkedHashSet<>();

    Document(Path file) throws IOException {
        String section = "";
        boolean inCode = false;
        for (String line : Files.readAllLines(file)) {
            if (line.startsWith("```")) {
                inCode = !inCode;
            } else if (inCode) {
                faceLines.add(line.trim());
            } else if (line.startsWith("#")) {
                section = line.replaceFirst("^#+ *", "").trim();
                sentences.put(section, new ArrayList<>());
            } else if (!line.isBlank()) {
                sentences.get(section).addAll(sentencesOf(line.trim()));
            }
        }
    }

    /** The lines of the public face, as the document has them. */
    List<String> faceLines() {
        return faceLines;
    }

    /** Notes a test of a sentence or of a part of one; false if the section has no such words. */
    boolean touch(String section, String words) {
        boolean found = false;
        for (String sentence : sentences.getOrDefault(section, List.of())) {
            if (sentence.contains(words)) {
                touched.add(section + ": " + sentence);
                found = true;
            }
        }
        return found;
    }

    /** The sentences up to the last promise that no test has touched. */
    List<String> untouched() {
        List<String> left = new ArrayList<>();
        for (Map.Entry<String, List<String>> one : sentences.entrySet()) {
            if (one.getKey().equals(LAST)) {
                break;
            }
            for (String sentence : one.getValue()) {
                String whole = one.getKey() + ": " + sentence;
                if (!touched.contains(whole)) {
                    left.add(whole);
                }
            }
        }
        return left;
    }

    int sentencesWithTests() {
        return touched.size();
    }

    private static List<String> sentencesOf(String line) {
        if (line.startsWith("- ")) {
            return List.of(line.substring(2));
        }
        return List.of(line.split("(?<=[.]) +(?=[A-Z(`])"));
    }
}

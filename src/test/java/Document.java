import java.io.IOException;
import java.nio.file.Files;
import java.nio.file.Path;
import java.util.ArrayList;
import java.util.HashSet;
import java.util.LinkedHashMap;
import java.util.List;
import java.util.Map;
import java.util.Set;
import java.util.regex.Pattern;

/** The sentences of the document, and which of them a test has quoted. */
final class Document {
    /** What a sentence that names a boundary case has in it. */
    private static final Pattern BOUNDARY = Pattern.compile("\\d|Throws|NONE|QUEUED|ACKNOWLEDGED|LOST"
            + "|\\b(at most|at least|less|empty|always|also|until|no|none|not|otherwise|Otherwise|first|last|equal|before)\\b"
            + "|smallest|out of range|separated");
    private static final String TERMS = "Terms";

    private final Map<String, List<String>> sentences = new LinkedHashMap<>();
    private final Map<String, Set<String>> quoted = new LinkedHashMap<>();

    Document() throws IOException {
        String section = "";
        for (String line : Files.readString(Path.of("../shared/DOC.md")).split("\n")) {
            if (line.startsWith("## ")) {
                section = line.substring(3).replaceAll(":.*", "");
                sentences.put(section, new ArrayList<>());
                quoted.put(section, new HashSet<>());
            } else if (!line.isBlank() && !section.isEmpty()) {
                add(section, line.strip().replaceFirst("^`[^`]*`: ", ""));
            }
        }
    }

    private void add(String section, String line) {
        for (String sentence : line.split("(?<=[.:)]) (?=[A-Z\"(])")) {
            sentences.get(section).add(sentence);
        }
    }

    /** Answers whether the document has a sentence with these words in the section. */
    boolean quote(String section, String words) {
        if (!sentences.containsKey(section)) {
            return false;
        }
        quoted.get(section).add(words);
        return sentences.get(section).stream().anyMatch(sentence -> sentence.contains(words));
    }

    boolean quoteTerms(String words) {
        return quote(TERMS, words);
    }

    /** The sentences that name a boundary case and that no test has quoted. */
    List<String> untested() {
        List<String> out = new ArrayList<>();
        for (String section : sentences.keySet()) {
            if (!section.equals(TERMS) && !section.startsWith("Promise ")) {
                continue;
            }
            for (String sentence : sentences.get(section)) {
                if (BOUNDARY.matcher(sentence).find() && !isConstant(sentence)
                        && quoted.get(section).stream().noneMatch(sentence::contains)) {
                    out.add(section + ": " + sentence);
                }
            }
        }
        return out;
    }

    /** The values of the constants are looked at by FaceTest. */
    private static boolean isConstant(String sentence) {
        return sentence.startsWith("The constants: ") || sentence.matches("Step \\d\\.")
                || sentence.startsWith("State of a ") || sentence.startsWith("Result of ")
                || sentence.startsWith("Error code: ") || sentence.startsWith("Returned if ");
    }
}

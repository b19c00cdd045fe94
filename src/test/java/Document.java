import java.io.IOException;
import java.nio.file.Files;
import java.nio.file.Path;
import java.util.ArrayList;
import java.util.LinkedHashMap;
import java.util.List;
import java.util.Map;

/** What ../shared/DOC.md says, by sections and sentences. */
final class Document {
    private static final Path PLACE = Path.of("../shared/DOC.md");
    private static final String PROMISE = "Promise ";

    private final Map<String, String> sections = new LinkedHashMap<>();

    Document() throws IOException {
        for (String part : Files.readString(PLACE).split("(?m)^## ")) {
            int end = part.indexOf('\n');
            String heading = part.substring(0, Math.max(end, 0));
            sections.put(nameOf(heading), part.substring(Math.max(end, 0)));
        }
    }

    private static String nameOf(String heading) {
        return heading.startsWith(PROMISE) ? heading.replaceAll(":.*", "") : heading;
    }

    static String plain(String text) {
        return text.replaceAll("\\s+", " ").strip();
    }

    boolean says(String section, String words) {
        return plain(sections.getOrDefault(section, "")).contains(plain(words));
    }

    /** The sections that bind the class, in their order. */
    List<String> sections() {
        List<String> names = new ArrayList<>();
        for (String name : sections.keySet()) {
            if (name.equals("What it is") || name.equals("Terms") || name.startsWith(PROMISE)) {
                names.add(name);
            }
        }
        return names;
    }

    /**
     * What a section says, piece by piece: parts of sentences in the terms; in a promise what the
     * call does, each parameter, what it returns, and each exception.
     */
    List<String> pieces(String section) {
        boolean promise = section.startsWith(PROMISE);
        String text = sections.get(section);
        List<String> pieces = new ArrayList<>();
        for (String piece : text.split(promise ? "\\n\\s*\\n|\\n(?=- )" : "(?<=[.;:])\\s+|\\n\\s*\\n")) {
            String words = plain(promise ? piece.replaceAll("(?s)^\\s*`[^`]*`: ", "") : piece);
            if (!words.isEmpty()) {
                pieces.add(words);
            }
        }
        return pieces;
    }
}

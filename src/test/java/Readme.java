import java.io.IOException;
import java.nio.file.Files;
import java.nio.file.Path;
import java.util.ArrayList;
import java.util.List;
import java.util.regex.Matcher;
import java.util.regex.Pattern;

/** What README.md says, and its examples: the lines of its java blocks, one behind the other. */
final class Readme {
    private static final Path PLACE = Path.of("README.md");
    private static final Pattern BLOCK = Pattern.compile("(?ms)^```java\\n(.*?)^```$");
    /** A statement and, behind it, its answer: a number or a word, then perhaps a colon and an explanation. */
    private static final Pattern LINE = Pattern.compile("(?:(\\w+) (\\w+) = )?(.*?);\\s*(?://\\s*(.*))?");

    /** A line of an example; the answer is empty where none is told. */
    record Example(String type, String name, String call, String answer) {
        boolean isRefused() {
            return answer.startsWith("throws ");
        }

        String thrown() {
            return answer.replaceAll("^throws ", "");
        }
    }

    private final String text;

    Readme() throws IOException {
        text = Files.readString(PLACE);
    }

    /** What stands behind the heading "Tests", or nothing. */
    String aboutTests() {
        int start = text.indexOf("\n## Tests\n");
        return start < 0 ? "" : text.substring(start);
    }

    /** All lines of the java blocks; a line that is no statement is an example without a call. */
    List<Example> examples() {
        List<Example> examples = new ArrayList<>();
        Matcher block = BLOCK.matcher(text);
        while (block.find()) {
            for (String line : block.group(1).split("\\n")) {
                if (!line.isBlank()) {
                    examples.add(exampleOf(line.strip()));
                }
            }
        }
        return examples;
    }

    private static Example exampleOf(String line) {
        Matcher parts = LINE.matcher(line);
        if (!parts.matches()) {
            return new Example("", "", "", line);
        }
        String comment = parts.group(4) == null ? "" : parts.group(4);
        String type = parts.group(1) == null ? "" : parts.group(1);
        String name = parts.group(2) == null ? "" : parts.group(2);
        return new Example(type, name, parts.group(3), comment.replaceAll(":.*", "").strip());
    }
}

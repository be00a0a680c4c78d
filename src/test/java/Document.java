import java.io.IOException;
import java.nio.file.Files;
import java.nio.file.Path;
import java.util.Arrays;
import java.util.LinkedHashMap;
import java.util.Map;

/** What the document says under each of its headings, and which of its words a test is named after. */
final class Document {
    private final Map<String, String> texts = new LinkedHashMap<>();
    private final Map<String, boolean[]> quoted = new LinkedHashMap<>();

    Document(Path path) throws IOException {
        String all = Files.readString(path).replace("\r", "");
        for (String part : all.split("\n## ")) {
            int end = part.indexOf('\n');
            String heading = end < 0 ? part : part.substring(0, end);
            String text = plain(end < 0 ? "" : part.substring(end));
            texts.put(heading.replaceAll(":.*", "").trim(), text);
            quoted.put(heading.replaceAll(":.*", "").trim(), new boolean[text.length()]);
        }
    }

    /** Without fences, rulers and the face of the call, on one line. */
    private static String plain(String text) {
        return text.replaceAll("```[a-z]*", " ").replaceAll("`[^`]*`:", " ").replace("========", " ")
                .replaceAll("\\s+", " ").trim();
    }

    /** False if these words do not stand there. */
    boolean quote(String heading, String words) {
        String text = texts.getOrDefault(heading, "");
        int at = text.indexOf(words);
        boolean found = at >= 0;
        while (at >= 0) {
            Arrays.fill(quoted.get(heading), at, at + words.length(), true);
            at = text.indexOf(words, at + 1);
        }
        return found;
    }

    /** The first words there that no test is named after; empty if there are none. */
    String unquoted(String heading) {
        String text = texts.getOrDefault(heading, heading);
        boolean[] marks = quoted.getOrDefault(heading, new boolean[text.length()]);
        StringBuilder words = new StringBuilder();
        for (int i = 0; i < text.length() && !(words.length() > 0 && marks[i]); i++) {
            if (!marks[i] && (words.length() > 0 || Character.isLetterOrDigit(text.charAt(i)))) {
                words.append(text.charAt(i));
            }
        }
        return words.toString();
    }
}

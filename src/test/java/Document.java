import java.io.IOException;
import java.io.UncheckedIOException;
import java.nio.file.Files;
import java.nio.file.Path;
import java.util.ArrayList;
import java.util.LinkedHashMap;
import java.util.List;
import java.util.Map;

/** ../shared/DOC.md, and which of its sentences the tests have quoted. */
final class Document {
    private static final String TERMS = "Terms";
    private static final String USE = "What it is";

    private final Map<String, Part> parts = new LinkedHashMap<>();

    private static final class Part {
        final String text;
        final boolean[] quoted;

        Part(String text) {
            this.text = text;
            quoted = new boolean[text.length()];
        }

        boolean quote(String words) {
            boolean found = false;
            for (int at = text.indexOf(words); at >= 0; at = text.indexOf(words, at + 1)) {
                java.util.Arrays.fill(quoted, at, at + words.length(), true);
                found = true;
            }
            return found;
        }
    }

    Document() {
        for (String section : read().split("\n## ")) {
            String title = section.lines().findFirst().orElse("");
            String body = section.substring(title.length());
            if (title.equals(TERMS)) {
                parts.put(TERMS, new Part(oneLine(body.replaceAll("```\\w*|==== \\d\\.", " "))));
            } else if (title.equals(USE)) {
                // What is said ahead of this is no more than what the document is of.
                parts.put(USE, new Part(oneLine(body.substring(body.indexOf("An object is used")))));
            } else if (title.startsWith("Promise ")) {
                // The call's head, between two back ticks, says what FaceTest looks at.
                String said = body.substring(body.indexOf("`:") + 2);
                parts.put(title.substring(0, title.indexOf(':')), new Part(oneLine(said)));
            }
        }
    }

    private static String read() {
        try {
            return Files.readString(Path.of("../shared/DOC.md"));
        } catch (IOException e) {
            throw new UncheckedIOException(e);
        }
    }

    private static String oneLine(String text) {
        return text.replaceAll("\\s+", " ").trim();
    }

    /** Whether the words stand in the promise's section, in the Terms or in what an object is used for. */
    boolean quote(int promise, String words) {
        Part own = parts.get("Promise " + promise);
        boolean inOwn = own != null && own.quote(words);
        boolean inTerms = parts.get(TERMS).quote(words);
        boolean inUse = parts.get(USE).quote(words);
        return inOwn || inTerms || inUse;
    }

    /** The words of the promises and the Terms that no test has quoted. */
    List<String> leftOut() {
        List<String> left = new ArrayList<>();
        for (Map.Entry<String, Part> entry : parts.entrySet()) {
            StringBuilder words = new StringBuilder();
            Part part = entry.getValue();
            for (int i = 0; i <= part.text.length(); i++) {
                if (i < part.text.length() && !part.quoted[i]) {
                    words.append(part.text.charAt(i));
                    continue;
                }
                if (words.chars().anyMatch(Character::isLetterOrDigit)) {
                    left.add(entry.getKey() + ": " + words);
                }
                words.setLength(0);
            }
        }
        return left;
    }
}

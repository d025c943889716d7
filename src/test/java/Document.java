import java.io.IOException;
import java.nio.file.Files;
import java.nio.file.Path;
import java.util.ArrayList;
import java.util.LinkedHashMap;
import java.util.List;
import java.util.Map;

/** The sentences of the document, by the places where they stand. */
final class Document {
    private static final Path FILE = Path.of("..", "shared", "DOC.md");
    /** Headings of groups of promises. */
    private static final List<String> GROUPS = List.of("Transitions.", "Present configuration.", "Words.",
            "Goals and analysis.", "Texts and snapshot.");

    private final Map<String, List<String>> sentences = new LinkedHashMap<>();

    private Document() {
    }

    static boolean isThere() {
        return Files.exists(FILE);
    }

    static Document read() {
        Document document = new Document();
        try {
            String text = Files.readString(FILE);
            for (String section : text.split("(?m)^## ")) {
                document.readSection(section);
            }
        } catch (IOException e) {
            throw new IllegalStateException("the document is not there", e);
        }
        return document;
    }

    Map<String, List<String>> sentences() {
        return sentences;
    }

    boolean has(String place, String sentence) {
        return sentences.getOrDefault(place, List.of()).contains(sentence);
    }

    private void readSection(String section) {
        String title = section.lines().findFirst().orElse("");
        String body = section.substring(title.length());
        if (title.startsWith("Promise ")) {
            String place = title.substring(0, title.indexOf(':'));
            for (String paragraph : body.split("\n\\s*\n")) {
                if (!paragraph.strip().startsWith("`") && !GROUPS.contains(paragraph.strip())) {
                    addPart(place, paragraph);
                }
            }
        } else if (title.equals("Description")) {
            readDescription(body);
        }
    }

    /** Each paragraph begins with its name; the examples, the last ones, have a test of their own. */
    private void readDescription(String body) {
        for (String paragraph : body.split("\n\\s*\n")) {
            String text = plain(paragraph);
            int end = text.indexOf('.');
            if (text.startsWith("Examples.")) {
                return;
            }
            if (end > 0) {
                addAll(text.substring(0, end), text.substring(end + 1).strip());
            }
        }
    }

    private void addPart(String place, String paragraph) {
        if (paragraph.strip().startsWith("- ")) {
            for (String line : paragraph.strip().split("\n- |^- ")) {
                if (!line.isBlank()) {
                    add(place, plain(line));
                }
            }
        } else {
            addAll(place, plain(paragraph));
        }
    }

    private void addAll(String place, String text) {
        for (String sentence : text.split("(?<=\\.) ")) {
            add(place, sentence);
        }
    }

    private void add(String place, String sentence) {
        if (!sentence.isBlank() && !has(place, sentence)) {
            sentences.computeIfAbsent(place, p -> new ArrayList<>()).add(sentence);
        }
    }

    private static String plain(String text) {
        return text.replace("`", "").replaceAll("\\s+", " ").strip();
    }
}

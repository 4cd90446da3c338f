import java.io.IOException;
import java.nio.file.Files;
import java.nio.file.Path;
import java.util.ArrayList;
import java.util.List;

/** The project's document, cut into the sentences that a test can name. */
final class Document {
    /** The number that stands for the sections before the first promise. */
    static final int TERMS = 0;
    private static final int PROMISES = 35;

    private final List<String> sections = new ArrayList<>();
    private final List<List<String>> quoted = new ArrayList<>();

    Document(Path path) throws IOException {
        String whole = Files.readString(path);
        sections.add(between(whole, "## What it is", "## The public face")
                + between(whole, "## Terms", "## Promise 1:"));
        for (int promise = 1; promise <= PROMISES; promise++) {
            sections.add(between(whole, "## Promise " + promise + ":", "\n## "));
        }
        for (int i = 0; i < sections.size(); i++) {
            quoted.add(new ArrayList<>());
        }
    }

    private static String between(String whole, String heading, String next) {
        int start = whole.indexOf("\n", whole.indexOf(heading));
        return whole.substring(start, whole.indexOf(next, start));
    }

    /** Notes that a test names this sentence; answers whether it stands in the document. */
    boolean quote(int section, String sentence) {
        quoted.get(section).add(sentence);
        return plain(sections.get(section)).contains(sentence);
    }

    /** The sentences that no test has named. */
    List<String> unquoted() {
        List<String> left = new ArrayList<>();
        for (int section = 0; section < sections.size(); section++) {
            List<String> quotes = quoted.get(section);
            for (String sentence : sentences(sections.get(section))) {
                if (quotes.stream().noneMatch(quote -> sentence.contains(quote) || quote.contains(sentence))) {
                    left.add((section == TERMS ? "Terms: " : "Promise " + section + ": ") + sentence);
                }
            }
        }
        return left;
    }

    private static List<String> sentences(String section) {
        List<String> sentences = new ArrayList<>();
        for (String line : section.split("\n")) {
            if (line.startsWith("- `")) {
                sentences.add(plain(line.substring(2)));
            } else if (line.matches(".*[.;:)]") && !line.startsWith("Ahead of the calls")) {
                String text = line.replaceFirst("^`[\\w ]+\\([^)]*\\)`: ", "").replaceFirst("^- ", "");
                for (String part : text.split("(?<=[.;:)])(?: |$)")) {
                    addSentence(sentences, plain(part).replaceAll("[.;:]$", ""));
                }
            }
        }
        return sentences;
    }

    /** A part without a blank, such as "- `sentence`:", says nothing by itself, unless it is the name of an error. */
    private static void addSentence(List<String> sentences, String part) {
        if (part.contains(" ") || part.contains("_")) {
            sentences.add(part);
        }
    }

    private static String plain(String text) {
        return text.replace("`", "").replaceAll("\\s+", " ").trim();
    }
}

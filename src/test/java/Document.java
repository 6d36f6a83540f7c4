import java.io.IOException;
import java.nio.file.Files;
import java.nio.file.Path;
import java.util.ArrayList;
import java.util.LinkedHashMap;
import java.util.List;
import java.util.Map;

/** The sentences of the document by its sections, and which of them a test holds. */
final class Document {
    private static final Path FILE = Path.of("../shared/DOC.md");
    /** This heading stands in the document without a sign of one. */
    private static final String BARE_HEADING = "Words, handovers";

    private static final class Sentence {
        final int begin;
        final String words;
        boolean held;

        Sentence(int begin, String words) {
            this.begin = begin;
            this.words = words;
        }

        boolean meets(int from, int to) {
            return begin < to && from < begin + words.length();
        }
    }

    private static final class Section {
        final StringBuilder text = new StringBuilder();
        final List<Sentence> sentences = new ArrayList<>();

        void add(String line) {
            for (String words : line.split("(?<=[.;])\\s+")) {
                sentences.add(new Sentence(text.length(), words));
                text.append(words).append(' ');
            }
        }
    }

    private final Map<String, Section> sections = new LinkedHashMap<>();

    Document() throws IOException {
        String heading = "";
        for (String line : Files.readAllLines(FILE)) {
            if (line.startsWith("#") || line.equals(BARE_HEADING)) {
                heading = line.replaceFirst("^#+ ", "");
                sections.put(heading, new Section());
            } else if (!line.isBlank()) {
                sections.get(heading).add(line.strip());
            }
        }
    }

    /** Whether the section says these words, in one place alone; its sentence is held from then on. */
    boolean hold(String heading, String words) {
        Section section = sections.get(heading);
        if (section == null) {
            return false;
        }
        int begin = section.text.indexOf(words);
        for (Sentence sentence : section.sentences) {
            sentence.held |= begin >= 0 && sentence.meets(begin, begin + words.length());
        }
        return begin >= 0 && section.text.indexOf(words, begin + 1) < 0;
    }

    List<String> notHeld() {
        List<String> found = new ArrayList<>();
        sections.forEach((heading, section) -> {
            for (Sentence sentence : section.sentences) {
                if (!sentence.held) {
                    found.add(heading + ": " + sentence.words);
                }
            }
        });
        return found;
    }
}

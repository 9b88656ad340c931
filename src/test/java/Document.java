import java.io.IOException;
import java.nio.file.Files;
import java.nio.file.Path;
import java.util.ArrayList;
import java.util.HashSet;
import java.util.List;
import java.util.Set;

/** The sentences of ../shared/DOC.md with their headings, and which of them have a test. */
final class Document {
    private static final Path PLACE = Path.of("..", "shared", "DOC.md");
    /** The names of what is told under "Terms". */
    private static final Set<String> TITLES = Set.of("Sheet.", "Palettes.", "Screen.",
            "Lines and flicker.", "Meeting.", "Packing.", "Shares.", "Pixel texts.", "History.",
            "Errors.");
    /** The headings with sentences that are none that an answer could break, or that say so. */
    private static final Set<String> PROMISES_NOTHING = Set.of("SpriteLines", "The public face",
            "Not promised");
    /** How sentences begin that tell of the text of the class, and not of what calls answer. */
    private static final List<String> TELLS_OF_THE_TEXT = List.of("Ahead of the calls ",
            "Sprites on a screen of scan lines: ");

    private record Sentence(String heading, String words) {
    }

    private final List<Sentence> sentences = new ArrayList<>();
    private final Set<Sentence> held = new HashSet<>();

    Document() throws IOException {
        String heading = "";
        boolean code = false;
        for (String line : Files.readAllLines(PLACE)) {
            if (line.startsWith("```")) {
                code = !code;
            } else if (line.startsWith("#")) {
                heading = line.replaceFirst("^#+ ", "").replaceFirst(":.*", "");
            } else if (!code && !line.isBlank() && !PROMISES_NOTHING.contains(heading)) {
                addSentences(heading, line);
            }
        }
    }

    private void addSentences(String heading, String line) {
        String told = line.strip().replaceFirst("^`[^`]*\\([^`]*`: ", "").replaceFirst("^- ", "");
        for (String words : told.split("(?<=\\.) (?=[A-Z`])")) {
            if (!TITLES.contains(words) && TELLS_OF_THE_TEXT.stream().noneMatch(words::startsWith)) {
                sentences.add(new Sentence(heading, words));
            }
        }
    }

    /** Notes that a test holds some words; false if they stand in no sentence under the heading. */
    boolean isHeld(String heading, String words) {
        boolean found = false;
        for (Sentence sentence : sentences) {
            if (sentence.heading().equals(heading) && sentence.words().contains(words)) {
                held.add(sentence);
                found = true;
            }
        }
        return found;
    }

    int size() {
        return sentences.size();
    }

    List<String> notHeld() {
        List<String> result = new ArrayList<>();
        for (Sentence sentence : sentences) {
            if (!held.contains(sentence)) {
                result.add(sentence.heading() + ": " + sentence.words());
            }
        }
        return result;
    }
}

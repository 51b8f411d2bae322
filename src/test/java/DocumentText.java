import java.io.IOException;
import java.nio.file.Files;
import java.nio.file.Path;
import java.util.ArrayList;
import java.util.LinkedHashSet;
import java.util.List;
import java.util.Set;

/** The sentences of the document by their places, and which of them a test has named. */
final class DocumentText {
    private static final Path DOCUMENT = Path.of("../shared/DOC.md");
    private static final List<String> TERMS = List.of("Values", "Nodes", "Vectors", "Open vectors", "Maps", "Sequences",
            "Realising", "References", "Transactions", "Commits", "Agents", "Exceptions");
    private static final Set<String> SENTENCES = new LinkedHashSet<>();
    private static final Set<String> NAMED = new LinkedHashSet<>();

    private DocumentText() {
    }

    static void name(String place, String sentence) {
        Check.holds("the document says under " + place + ": " + sentence, sentences().contains(place + ": " + sentence));
        NAMED.add(place + ": " + sentence);
    }

    static void checkEachIsNamed() {
        for (String sentence : sentences()) {
            Check.holds("a test names the sentence under " + sentence, NAMED.contains(sentence));
        }
    }

    private static Set<String> sentences() {
        if (SENTENCES.isEmpty()) {
            try {
                read(Files.readString(DOCUMENT));
            } catch (IOException e) {
                throw new AssertionError(e);
            }
        }
        return SENTENCES;
    }

    private static void read(String text) {
        String place = "";
        for (String paragraph : paragraphsOf(text)) {
            if (paragraph.startsWith("#")) {
                place = paragraph.replaceAll("^#+ ([^:]*).*$", "$1");
            } else if (place.startsWith("Promise ")) {
                readPromise(place, paragraph);
            } else if (place.equals("Terms") || TERMS.contains(place)) {
                place = readTerm(place, paragraph);
            } else if (place.equals("What it is")) {
                SENTENCES.add(place + ": " + paragraph);
            }
        }
        SENTENCES.remove("What it is: A parlour of lasting values.");
    }

    private static List<String> paragraphsOf(String text) {
        List<String> paragraphs = new ArrayList<>();
        for (String paragraph : text.split("\n\\s*\n")) {
            for (String part : paragraph.split("\n(?=- )")) {
                paragraphs.add(part.trim().replaceAll("\\s+", " "));
            }
        }
        return paragraphs;
    }

    /** What tells no more than that a parameter is there has nothing to test. */
    private static void readPromise(String place, String paragraph) {
        String said = paragraph.replaceAll("^`[^`]*( throws [^`]*)?`: ", "");
        boolean tellsBounds = said.matches(".*([0-9]| or ).*");
        if (!said.startsWith("- ") || tellsBounds) {
            SENTENCES.add(place + ": " + said);
        }
    }

    /** The sentences of a paragraph that begins with a term, or that goes on with the one before. */
    private static String readTerm(String place, String paragraph) {
        String at = place;
        if (paragraph.startsWith("Ahead of the calls") || paragraph.startsWith("The class is not thread-safe")) {
            return at;
        }
        for (String sentence : paragraph.split("(?<=\\.) (?=[A-Z])")) {
            String title = sentence.substring(0, sentence.length() - 1);
            if (TERMS.contains(title)) {
                at = title;
            } else {
                SENTENCES.add(at + ": " + sentence);
            }
        }
        return at;
    }
}

import java.nio.file.Files;
import java.nio.file.Path;
import java.util.LinkedHashSet;
import java.util.Set;

/**
 * The checks of the boundary tests. Each belongs to a sentence of the document, which the test
 * quotes, so that it can be seen which sentence fails and that none has been passed over.
 */
final class Sentences {
    private static final Path DOCUMENT = Path.of("../shared/DOC.md");
    private static final Set<String> QUOTED = new LinkedHashSet<>();
    private static String current = "";
    private static int wrong = 0;

    private Sentences() {
    }

    /** The sentence, or a part of one, that the checks from here on are about. */
    static void says(String sentence) {
        current = sentence;
        QUOTED.add(sentence);
    }

    static void due(String what, long got, long want) {
        if (got != want) {
            fault(what + " answered " + got + ", due is " + want);
        }
    }

    static void holds(String what, boolean it) {
        if (!it) {
            fault(what + " does not hold");
        }
    }

    /** How many checks failed; the document is compared first. */
    static int faults() throws Exception {
        if (Files.exists(DOCUMENT)) {
            compare(Files.readString(DOCUMENT));
        } else {
            System.out.println("no document to compare the quotes with");
        }
        return wrong;
    }

    private static void fault(String text) {
        wrong++;
        System.out.println("\"" + current + "\": " + text);
    }

    private static void compare(String document) {
        String plain = plain(document);
        for (String quote : QUOTED) {
            says(quote);
            holds("that the document says this", plain.contains(quote));
        }
        for (String line : document.substring(document.indexOf("## Description")).split("\n")) {
            if (line.startsWith("## Not promised")) {
                return;
            }
            for (String sentence : line.split("(?<=[.:;]) ")) {
                current = plain(sentence).replaceFirst("^- (?=[A-Z])", "");
                holds("that a test quotes this", isNoSentence(line) || isQuoted(current));
            }
        }
    }

    private static boolean isNoSentence(String line) {
        return line.isEmpty() || line.startsWith("#") || line.startsWith("----") || line.startsWith("`");
    }

    private static boolean isQuoted(String sentence) {
        // The names of the document's sections are no sentences.
        if (sentence.equals(sentence.toUpperCase())) {
            return true;
        }
        for (String quote : QUOTED) {
            if (quote.contains(sentence) || sentence.contains(quote)) {
                return true;
            }
        }
        return false;
    }

    private static String plain(String text) {
        return text.replace("`", "").replaceAll("\\s+", " ").trim();
    }
}

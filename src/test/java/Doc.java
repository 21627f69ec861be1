import java.io.IOException;
import java.io.UncheckedIOException;
import java.nio.charset.StandardCharsets;
import java.nio.file.Files;
import java.nio.file.Path;
import java.util.LinkedHashMap;
import java.util.Map;
import java.util.Set;
import java.util.TreeSet;

/**
 * A section of the document, from which each sentence is quoted with a test of its own. What is
 * left over at the end, or a quotation that the document does not have, is a failure: so no
 * sentence is forgotten, and none is made up.
 */
final class Doc {
    private static final Path FILE = Path.of("../shared/DOC.md");
    private static final Set<String> WITHOUT_TESTS_HERE =
        Set.of("TickForms", "The public face", "Not promised");
    private static final Map<String, String> SECTIONS = new LinkedHashMap<>();
    private static final Set<String> ended = new TreeSet<>();

    private final String heading;
    private String left;

    private Doc(String heading, String left) {
        this.heading = heading;
        this.left = left;
    }

    static Doc section(String heading) {
        if (SECTIONS.isEmpty()) {
            read();
        }
        Check.under("");
        Check.same("the document has the section " + heading, "true",
            "" + SECTIONS.containsKey(heading));
        return new Doc(heading, SECTIONS.getOrDefault(heading, ""));
    }

    /** The sentence, or the part of one between its semicolons, and what must hold by it. */
    Doc says(String sentence, Runnable test) {
        take(sentence);
        int before = Check.seen();
        try {
            test.run();
        } catch (RuntimeException e) {
            Check.same("the test runs to its end", "true", e.toString());
        }
        Check.same("the test looks at something", "true", "" + (Check.seen() > before));
        return this;
    }

    /** A sentence that tells nothing that a call could break. */
    Doc passes(String sentence) {
        take(sentence);
        return this;
    }

    void end() {
        Check.under(heading);
        Check.same("sentences without a test", "", left.replaceAll("[;:. ]", ""));
        ended.add(heading);
    }

    static void allEnded() {
        Check.under("");
        Set<String> open = new TreeSet<>(SECTIONS.keySet());
        open.removeAll(ended);
        open.removeAll(WITHOUT_TESTS_HERE);
        Check.same("sections without a test", "[]", open.toString());
    }

    private void take(String sentence) {
        Check.under(heading + ": " + sentence);
        int at = left.indexOf(sentence);
        Check.same("the document says it", "true", "" + (at >= 0));
        if (at >= 0) {
            left = left.substring(0, at) + left.substring(at + sentence.length());
        }
    }

    /** The declaration ahead of a promise is LanguageTest's, which looks at the whole face. */
    private static void read() {
        String heading = "";
        try {
            for (String line : Files.readAllLines(FILE, StandardCharsets.UTF_8)) {
                if (line.startsWith("#")) {
                    heading = line.replaceAll("^#+ ", "");
                    SECTIONS.put(heading, "");
                } else {
                    String text = line.replaceAll("^- ", "")
                        .replaceAll("^`[A-Za-z ]*\\([^`]*`: ", "");
                    SECTIONS.merge(heading, text + " ", String::concat);
                }
            }
        } catch (IOException e) {
            throw new UncheckedIOException(e);
        }
    }
}

import java.io.IOException;
import java.nio.file.Files;
import java.nio.file.Path;
import java.util.LinkedHashMap;
import java.util.List;
import java.util.Map;

/**
 * Checks that quote the document: each answer asked for stands for the text that was quoted last. At the end
 * no word of the document's terms and promises may be left that no test has quoted.
 */
final class Sentences extends Checks {
    private static final Path DOCUMENT = Path.of("..", "shared", "DOC.md");

    private final Map<String, String> sections = new LinkedHashMap<>();
    private final Map<String, StringBuilder> unquoted = new LinkedHashMap<>();
    private String quoted = "nothing";
    private int askedAhead = 0;

    Sentences(String name) {
        super(name);
        read();
    }

    /** The answers from here on stand for this text of this section. */
    void of(String section, String text) {
        endOfQuote();
        quoted = section + ", \"" + text + "\"";
        askedAhead = asked();
        blank(section, text);
    }

    /** A text that promises nothing of a call's answers. */
    void promisesNothing(String section, String text) {
        blank(section, text);
    }

    @Override
    void tell(String what) {
        super.tell(quoted + ": " + what);
    }

    @Override
    void finish() {
        endOfQuote();
        quoted = "at the end";
        for (Map.Entry<String, StringBuilder> one : unquoted.entrySet()) {
            String left = one.getValue().toString().replaceAll("[^A-Za-z0-9]+", " ").trim();
            if (!left.isEmpty()) {
                tell(one.getKey() + " is not tested in: " + left);
            }
        }
        super.finish();
    }

    private void endOfQuote() {
        if (!quoted.equals("nothing") && asked() == askedAhead) {
            tell("no answer was asked for");
        }
    }

    private void blank(String section, String text) {
        if (sections.isEmpty()) {
            return;
        }
        int start = sections.getOrDefault(section, "").indexOf(text);
        if (start < 0) {
            tell(section + " does not say: " + text);
            return;
        }
        for (int i = start; i < start + text.length(); i++) {
            unquoted.get(section).setCharAt(i, ' ');
        }
    }

    private void read() {
        List<String> lines;
        try {
            lines = Files.readAllLines(DOCUMENT);
        } catch (IOException unread) {
            System.out.println("SentenceTest: no document at " + DOCUMENT + ", so no quote is compared with it");
            return;
        }
        String section = "";
        for (String line : lines) {
            if (line.startsWith("## ")) {
                section = line.substring(3).replaceFirst(":.*", "");
            } else if (section.matches("What it is|Terms|Promise .*")) {
                sections.merge(section, withoutSignature(line) + "\n", String::concat);
            }
        }
        sections.forEach((name, text) -> unquoted.put(name, new StringBuilder(text)));
    }

    /** Signatures are looked at by FaceTest. */
    private static String withoutSignature(String line) {
        return line.replaceFirst("^`[^`]*\\([^`]*`: ", "");
    }
}

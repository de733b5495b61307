import java.io.IOException;
import java.nio.charset.StandardCharsets;
import java.nio.file.Files;
import java.nio.file.Path;
import java.util.LinkedHashMap;
import java.util.Map;

/**
 * The document itself, read from ../shared/DOC.md. A test names the sentence that it is for in the document's own
 * words, and no sentence is forgotten: what is neither tested nor said to name no boundary is told in the end.
 */
final class Document {
    private static final class Section {
        final String text;
        final boolean[] named;

        Section(String text) {
            this.text = text;
            this.named = new boolean[text.length()];
        }
    }

    private static final Map<String, Section> SECTIONS = new LinkedHashMap<>();
    private static String heading = "";

    private Document() {
    }

    static void read() throws IOException {
        String whole = Files.readString(Path.of("../shared/DOC.md"), StandardCharsets.UTF_8);
        String[] parts = whole.split("\n## ");
        for (int i = 1; i < parts.length; i++) {
            int end = parts[i].indexOf('\n');
            String title = parts[i].substring(0, end).trim();
            // The face is looked at by FaceTest, and of what is not promised there is nothing to test.
            if (!title.equals("The public face") && !title.equals("Not promised")) {
                SECTIONS.put(title, new Section(plainText(parts[i].substring(end))));
            }
        }
    }

    /** The text without a signature at its beginning, without the signs of lists and code, and in one line. */
    private static String plainText(String body) {
        return body.replaceFirst("^\\s*`[^`]*\\([^`]*`: ", "").replaceAll("(?m)^- ", "").replace("`", "")
                .replaceAll("\\s+", " ").trim();
    }

    static void section(String title) {
        heading = title;
        Checks.about("");
        Checks.due("the document has a section " + title, SECTIONS.containsKey(title), true);
    }

    /** Runs the test of a sentence of the section; " ... " in the sentence stands for words that are left out. */
    static void holds(String sentence, Runnable test) {
        name(sentence);
        Checks.about("[" + heading + "] \"" + sentence + "\": ");
        int before = Checks.made();
        try {
            test.run();
        } catch (RuntimeException e) {
            Checks.due("a call of the test", e.toString(), "no exception");
        }
        int looked = Checks.made() - before;
        Checks.about("");
        Checks.due("a test looks at answers for \"" + sentence + "\"", looked > 0, true);
    }

    /** Tells words of the section that name no boundary. */
    static void noBoundary(String... sentences) {
        for (String sentence : sentences) {
            name(sentence);
        }
    }

    private static void name(String sentence) {
        Section section = SECTIONS.get(heading);
        int from = section == null ? -1 : place(section, sentence);
        Checks.due("[" + heading + "] says \"" + sentence + "\" (once more)", from >= 0, true);
    }

    private static int place(Section section, String sentence) {
        String[] parts = sentence.split(" \\.\\.\\. ");
        for (int from = section.text.indexOf(parts[0]); from >= 0; from = section.text.indexOf(parts[0], from + 1)) {
            int end = from + parts[0].length();
            for (int i = 1; i < parts.length && end >= 0; i++) {
                int next = section.text.indexOf(parts[i], end);
                end = next < 0 ? -1 : next + parts[i].length();
            }
            if (end >= 0 && !section.named[from]) {
                java.util.Arrays.fill(section.named, from, end, true);
                return from;
            }
        }
        return -1;
    }

    /** Looks for words of the document that no test and no list of those without a boundary has named. */
    static void close() {
        Checks.about("");
        SECTIONS.forEach((title, section) -> {
            StringBuilder rest = new StringBuilder();
            for (int i = 0; i < section.text.length(); i++) {
                rest.append(section.named[i] ? "|" : section.text.substring(i, i + 1));
            }
            String forgotten = rest.toString().replaceAll("[^A-Za-z0-9]*\\|[^A-Za-z0-9]*", "|").replaceAll("\\|+", "|");
            Checks.due("words without a test in [" + title + "]", forgotten, "|");
        });
    }
}

import java.io.IOException;
import java.nio.file.Files;
import java.nio.file.Path;
import java.util.List;

/**
 * The document's sentences. A sentence that a test quotes must stand in the document, must be followed by checks of
 * its own, and in the end no word of the Terms and promises may be left that no test quoted.
 */
final class Doc {
    static final int TERMS = 0;
    private static final int PROMISES = 36;
    private static final Path FILE = Path.of("..", "shared", "DOC.md");
    private static final StringBuilder[] SECTIONS = new StringBuilder[PROMISES + 1];
    private static final boolean[][] QUOTED = new boolean[PROMISES + 1][];
    private static String sentence = "";
    private static int checksAhead = 0;

    private Doc() {
    }

    /** Without the document (a checkout of its own) the tests still run; only their quotes are not looked up. */
    static void open() throws IOException {
        for (int i = 0; i <= PROMISES; i++) {
            SECTIONS[i] = new StringBuilder();
        }
        if (Files.isReadable(FILE)) {
            split(Files.readAllLines(FILE));
        }
        for (int i = 0; i <= PROMISES; i++) {
            QUOTED[i] = new boolean[SECTIONS[i].length()];
        }
    }

    private static void split(List<String> lines) {
        int section = -1;
        for (String line : lines) {
            if (line.startsWith("## ")) {
                section = line.equals("## Terms") ? TERMS : line.matches("## Promise \\d+: .*") ? promiseOf(line) : -1;
            } else if (section >= 0 && !line.startsWith("```")) {
                String text = section == TERMS ? line : line.replaceFirst("^`[^`]*`: ", "");
                SECTIONS[section].append(text.trim().replaceAll("\\s+", " ")).append(' ');
            }
        }
    }

    private static int promiseOf(String heading) {
        return Integer.parseInt(heading.replaceFirst("## Promise (\\d+): .*", "$1"));
    }

    /** The checks that follow, up to the next call, are those of this sentence. */
    static void says(int section, String quote) {
        closeSentence();
        sentence = (section == TERMS ? "Terms" : "promise " + section) + ", \"" + quote + "\"";
        Check.about(sentence);
        checksAhead = Check.made();
        if (SECTIONS[TERMS].length() == 0) {
            return;
        }
        int at = SECTIONS[section].indexOf(quote);
        Check.isTrue("this stands in the document", at >= 0);
        checksAhead++;
        for (int i = at; at >= 0 && i < at + quote.length(); i++) {
            QUOTED[section][i] = true;
        }
    }

    private static void closeSentence() {
        if (!sentence.isEmpty()) {
            Check.isTrue("there are checks of it", Check.made() > checksAhead);
        }
    }

    static void close() {
        closeSentence();
        sentence = "";
        Check.about("");
        for (int section = 0; section <= PROMISES; section++) {
            StringBuilder left = new StringBuilder();
            for (int i = 0; i < QUOTED[section].length; i++) {
                left.append(QUOTED[section][i] ? ' ' : SECTIONS[section].charAt(i));
            }
            String words = left.toString().replaceAll("==== \\d\\.", "").replaceAll("\\s+", " ");
            Check.isTrue("no test quotes of section " + section + ": " + words, !words.matches(".*[A-Za-z0-9].*"));
        }
    }
}

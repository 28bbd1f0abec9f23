import java.io.IOException;
import java.nio.charset.StandardCharsets;
import java.nio.file.Files;
import java.nio.file.Path;

/** ../shared/DOC.md by sections, 0 the Terms, 1 to 41 the promises, 42 'What it is', and what of each the tests quoted. */
final class Doc {
    static final int TERMS = 0;
    static final int PROMISES = 41;
    static final int WHAT_IT_IS = PROMISES + 1;
    private static final String[] SECTIONS = new String[WHAT_IT_IS + 1];
    private static final boolean[][] QUOTED = new boolean[SECTIONS.length][];

    private Doc() {
    }

    /** Notes that a test stands for a sentence; false, if the section has no such sentence. */
    static boolean quote(int section, String sentence) {
        read();
        String text = SECTIONS[section];
        int from = text.indexOf(sentence);
        // A sentence that stands there more than once is quoted once for each.
        for (int next = from; next >= 0 && QUOTED[section][from]; next = text.indexOf(sentence, next + 1)) {
            from = next;
        }
        for (int i = 0; from >= 0 && i < sentence.length(); i++) {
            QUOTED[section][from + i] = true;
        }
        return from >= 0;
    }

    /** The words of a section that no test has quoted. */
    static String unquoted(int section) {
        read();
        StringBuilder left = new StringBuilder();
        for (int i = 0; i < SECTIONS[section].length(); i++) {
            left.append(QUOTED[section][i] ? ' ' : SECTIONS[section].charAt(i));
        }
        return left.toString().replaceAll(" +", " ").trim();
    }

    static int sections() {
        return SECTIONS.length;
    }

    static String name(int section) {
        return section == TERMS ? "Terms" : section == WHAT_IT_IS ? "What it is" : "promise " + section;
    }

    /** The document whole, line by line. */
    static String all() {
        try {
            return new String(Files.readAllBytes(Path.of("../shared/DOC.md")), StandardCharsets.UTF_8);
        } catch (IOException e) {
            throw new IllegalStateException("the document is not at ../shared/DOC.md", e);
        }
    }

    private static void read() {
        if (SECTIONS[0] != null) {
            return;
        }
        String all = all();
        for (int i = 0; i < SECTIONS.length; i++) {
            boolean isPromise = i >= 1 && i <= PROMISES;
            String head = isPromise ? "## Promise " + i + ":" : "## " + name(i) + "\n";
            String from = all.substring(all.indexOf(head) + head.length());
            SECTIONS[i] = isPromise ? promise(from) : plain(from.substring(0, from.indexOf("\n## ")));
            QUOTED[i] = new boolean[SECTIONS[i].length()];
        }
    }

    /** A promise without its heading and without the line of the face that it repeats. */
    private static String promise(String from) {
        String text = plain(from.substring(from.indexOf('\n'), from.indexOf("\n## ")));
        return text.substring(text.indexOf("`: ") + 3);
    }

    /** In one line, without the frames of the blocks and without what the interface says ahead of calls. */
    private static String plain(String text) {
        StringBuilder plain = new StringBuilder();
        for (String line : text.split("\n")) {
            if (!line.startsWith("```") && !line.startsWith("Ahead of the calls")) {
                plain.append(line.trim()).append(' ');
            }
        }
        return plain.toString().replaceAll(" +", " ").trim();
    }
}

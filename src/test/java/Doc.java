import java.io.IOException;
import java.io.UncheckedIOException;
import java.nio.file.Files;
import java.nio.file.Path;
import java.util.ArrayList;
import java.util.List;
import java.util.regex.Matcher;
import java.util.regex.Pattern;

/** The document's Terms and promises, and which of their words a test has quoted. */
final class Doc {
    static final int TERMS = 0;
    static final int PROMISES = 55;

    private static final Pattern HEADING = Pattern.compile("## Promise (\\d+): [^`]*`[^`]*`: ");
    private static final Pattern LABEL = Pattern.compile("==== \\d\\.|Ahead of the calls .*? the interface says: ---- [\\w ]+\\.");
    private static final Pattern WORD = Pattern.compile("\\w+");

    private final String[] sections = new String[PROMISES + 1];
    private final boolean[][] quoted = new boolean[PROMISES + 1][];

    Doc(String path) {
        String all = read(path).replaceAll("```(text)?", " ").replaceAll("\\s+", " ");
        all = all.substring(all.indexOf("## Terms") + 9, all.indexOf("## Not promised"));
        Matcher m = HEADING.matcher(all);
        int section = TERMS;
        int from = 0;
        while (m.find()) {
            take(section, all.substring(from, m.start()));
            section = Integer.parseInt(m.group(1));
            from = m.end();
        }
        take(section, all.substring(from));
    }

    private static String read(String path) {
        try {
            return Files.readString(Path.of(path));
        } catch (IOException e) {
            throw new UncheckedIOException(e);
        }
    }

    private void take(int section, String text) {
        sections[section] = LABEL.matcher(text).replaceAll(" ").strip();
        quoted[section] = new boolean[sections[section].length()];
    }

    /** Whether the words stand in that section; they are quoted then. */
    boolean quote(int section, String words) {
        int at = sections[section].indexOf(words);
        for (int from = at; from >= 0; from = sections[section].indexOf(words, from + 1)) {
            for (int i = from; i < from + words.length(); i++) {
                quoted[section][i] = true;
            }
        }
        return at >= 0;
    }

    /** The words that no test has quoted, with some of what stands about them. */
    List<String> unquoted() {
        List<String> found = new ArrayList<>();
        for (int section = 0; section <= PROMISES; section++) {
            Matcher m = WORD.matcher(sections[section]);
            while (m.find()) {
                if (!isQuoted(section, m.start(), m.end())) {
                    int from = Math.max(0, m.start() - 20);
                    int to = Math.min(sections[section].length(), m.end() + 20);
                    found.add(section + ": .. " + sections[section].substring(from, to) + " ..");
                }
            }
        }
        return found;
    }

    private boolean isQuoted(int section, int from, int to) {
        for (int i = from; i < to; i++) {
            if (!quoted[section][i]) {
                return false;
            }
        }
        return true;
    }
}

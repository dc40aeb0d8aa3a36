import java.io.IOException;
import java.nio.file.Files;
import java.nio.file.Path;
import java.util.Set;
import java.util.TreeSet;

/**
 * The document itself, below the working folder's neighbour: a test quotes from it what it is a test of. Where it can't
 * be read, the answers are held against what is due all the same, and only the quotes are not looked up.
 */
final class Doc {
    private static final Path PLACE = Path.of("../shared/DOC.md");
    private final String text;
    private final Set<Integer> quoted = new TreeSet<>();

    Doc() {
        text = read();
        if (text.isEmpty()) {
            System.out.println("there is no " + PLACE + ": the quotes are not looked up");
        }
    }

    private static String read() {
        try {
            return Files.readString(PLACE).replaceAll("\\s+", " ");
        } catch (IOException e) {
            return "";
        }
    }

    /** Whether it stands between two headings. */
    private boolean has(String head, String next, String sentence) {
        int from = text.indexOf(head);
        int to = text.indexOf(next, from + 1);
        return text.isEmpty() || from >= 0 && to >= 0 && text.substring(from, to).contains(sentence);
    }

    boolean hasTerm(String sentence) {
        return has("## Terms", "## Promise 1:", sentence);
    }

    boolean hasHead(String sentence) {
        return has("# SampleHouse", "## Terms", sentence);
    }

    boolean hasPromise(int number, String sentence) {
        quoted.add(number);
        return has("## Promise " + number + ":", "## ", sentence);
    }

    boolean isQuoted(int number) {
        return quoted.contains(number);
    }
}

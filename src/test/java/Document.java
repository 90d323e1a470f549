import java.io.IOException;
import java.io.UncheckedIOException;
import java.nio.file.Files;
import java.nio.file.Path;
import java.util.ArrayList;
import java.util.Arrays;
import java.util.List;

/** The document by its lines, so that a test can name the sentence that it holds the class against. */
final class Document {
    static final Path PLACE = Path.of("../shared/DOC.md");
    static final String FIRST_PROMISE = "## Promise 1:";
    private static final List<String> LINES = read();

    private Document() {
    }

    private static List<String> read() {
        try {
            return Files.readAllLines(PLACE);
        } catch (IOException e) {
            throw new UncheckedIOException(e);
        }
    }

    /** The lines behind the one that begins so, up to the next one that begins with the other. */
    static List<String> between(String from, String to) {
        List<String> found = new ArrayList<>();
        boolean isInside = false;
        for (String line : LINES) {
            if (isInside && line.startsWith(to)) {
                return found;
            }
            if (isInside && !line.isBlank()) {
                found.add(line);
            }
            isInside |= line.startsWith(from);
        }
        throw new IllegalStateException("the document has nothing from " + from + " to " + to);
    }

    /** What a promise says, without the declaration of its call. */
    static List<String> promise(int number) {
        List<String> found = new ArrayList<>();
        for (String line : between("## Promise " + number + ":", "## ")) {
            found.add(line.replaceFirst("^`[^`]+\\)[^`]*`: ", ""));
        }
        return found;
    }

    /** Whether the sentence stands in that promise, or ahead of all promises. */
    static boolean says(int promise, String sentence) {
        List<String> lines = between("## What it is", FIRST_PROMISE);
        if (promise > 0) {
            lines.addAll(promise(promise));
        }
        return lines.stream().anyMatch(line -> line.contains(sentence));
    }

    /** What of a line none of the sentences holds, without what is no word. */
    static String unheld(String line, List<String> sentences) {
        boolean[] held = new boolean[line.length()];
        for (String sentence : sentences) {
            for (int at = line.indexOf(sentence); at >= 0; at = line.indexOf(sentence, at + 1)) {
                Arrays.fill(held, at, at + sentence.length(), true);
            }
        }
        StringBuilder left = new StringBuilder();
        for (int at = 0; at < held.length; at++) {
            if (!held[at] && (Character.isLetterOrDigit(line.charAt(at)) || left.length() > 0)) {
                left.append(line.charAt(at));
            }
        }
        return left.toString().trim();
    }
}

import java.io.IOException;
import java.io.UncheckedIOException;
import java.nio.file.Files;
import java.nio.file.Path;

/**
 * The document, read piece by piece from its first line to its last. Each piece must be the one that comes next, so that
 * a test that reads to the end has left no sentence out. Line ends count as spaces.
 */
final class Document {
    private static final Path PLACE = Path.of("../shared/DOC.md");
    private static final int SHOWN = 100;

    private final String text = words(content());
    private int place = 0;
    private String last = "";

    private static String content() {
        try {
            return Files.readString(PLACE);
        } catch (IOException e) {
            throw new UncheckedIOException(e);
        }
    }

    private static String words(String lines) {
        return lines.trim().replaceAll("\\s+", " ");
    }

    /** Reads a heading, or a sentence that asks nothing of the class. */
    void tells(String piece) {
        last = piece;
        if (!text.startsWith(piece, place)) {
            String next = text.substring(place, Math.min(text.length(), place + SHOWN));
            // what follows would be out of step as well
            throw new IllegalStateException("the document goes on with\n  " + next + "\nand not with\n  " + piece);
        }
        place += piece.length();
        while (place < text.length() && text.charAt(place) == ' ') {
            place++;
        }
    }

    /** Reads a sentence, or a part of it, and begins a run on a new object that shows that it holds. */
    Run says(String piece) {
        tells(piece);
        return again();
    }

    /** Begins another run for the sentence that was read last. */
    Run again() {
        return Run.of(last);
    }

    /** Looks at something else that the last sentence says. */
    void holds(String what, boolean fact) {
        Run.due(last, what, fact ? 1 : 0, 1);
    }

    /** Reads all up to the end mark, and the mark, and gives what stands before it. */
    String upTo(String mark) {
        int end = text.indexOf(mark, place);
        if (end < 0) {
            throw new IllegalStateException("the document has no more " + mark);
        }
        String piece = text.substring(place, end);
        tells(piece);
        tells(mark);
        return piece.trim();
    }

    void ends() {
        last = "the document";
        holds("is read to its end", place == text.length());
    }
}

import java.io.IOException;
import java.io.UncheckedIOException;
import java.nio.file.Files;
import java.nio.file.Path;
import java.util.ArrayList;
import java.util.List;

/** The document's own words: 'Terms' is part 0, 'Promise 1' to 'Promise 31' are parts 1 to 31. */
final class Doc {
    static final int PARTS = 32;
    private static final Path FILE = Path.of("../shared/DOC.md");
    private static final List<String> TEXTS = read();

    private Doc() {}

    /** The words of a part, with one blank between two, without headings and fences. */
    static String part(int number) {
        return TEXTS.get(number);
    }

    static int timesIn(int number, String sentence) {
        int times = 0;
        int at = part(number).indexOf(sentence);
        while (at >= 0) {
            times++;
            at = part(number).indexOf(sentence, at + 1);
        }
        return times;
    }

    private static List<String> read() {
        List<StringBuilder> parts = new ArrayList<>();
        boolean isIn = false;
        for (String line : lines()) {
            if (line.startsWith("## ")) {
                isIn = line.equals("## Terms") || line.startsWith("## Promise ");
                if (isIn) parts.add(new StringBuilder());
            } else if (isIn && !line.startsWith("```")) {
                parts.get(parts.size() - 1).append(' ').append(line);
            }
        }
        List<String> texts = new ArrayList<>();
        for (StringBuilder b : parts) texts.add(b.toString().replaceAll("\\s+", " ").trim());
        if (texts.size() != PARTS) throw new IllegalStateException("parts: " + texts.size());
        return texts;
    }

    private static List<String> lines() {
        try {
            return Files.readAllLines(FILE);
        } catch (IOException e) {
            throw new UncheckedIOException(e);
        }
    }
}

import java.io.IOException;
import java.nio.file.Files;
import java.nio.file.Path;
import java.util.List;
import java.util.regex.Matcher;
import java.util.regex.Pattern;
import java.util.stream.Stream;

/** Each sentence of 'Terms' and of the promises is named by a test that holds it. */
public final class SentenceTest {
    private static final Path TESTS = Path.of("src/test/java");
    private static final Pattern SAYS = Pattern.compile(
            "Due\\.says\\(\\s*(\\d+),\\s*((?:\"(?:[^\"\\\\]|\\\\.)*\"\\s*\\+?\\s*)+)\\)");
    private static final Pattern PIECE = Pattern.compile("\"((?:[^\"\\\\]|\\\\.)*)\"");

    /** What nobody can ask for. */
    private static final List<String> UNASKED = List.of("All memory is the house's own.");

    private SentenceTest() {}

    public static void main(String[] args) throws IOException {
        boolean[][] held = new boolean[Doc.PARTS][];
        for (int i = 0; i < Doc.PARTS; i++) held[i] = new boolean[Doc.part(i).length()];
        try (Stream<Path> files = Files.list(TESTS)) {
            for (Path file : files.sorted().toList()) read(Files.readString(file), held);
        }
        for (String words : UNASKED) mark(held[0], 0, words);
        for (int i = 0; i < Doc.PARTS; i++) ask(i, held[i]);
        Due.end("SentenceTest");
    }

    private static void read(String source, boolean[][] held) {
        Matcher says = SAYS.matcher(source);
        while (says.find()) {
            StringBuilder words = new StringBuilder();
            Matcher piece = PIECE.matcher(says.group(2));
            while (piece.find()) words.append(piece.group(1));
            int part = Integer.parseInt(says.group(1));
            Due.due("stands once in part " + part + ": " + words,
                    Doc.timesIn(part, words.toString()), 1);
            mark(held[part], part, words.toString());
        }
    }

    private static void mark(boolean[] held, int part, String words) {
        int at = Doc.part(part).indexOf(words);
        for (int i = at; at >= 0 && i < at + words.length(); i++) held[i] = true;
    }

    /** Letters and digits that stand in no sentence named by a test are told. */
    private static void ask(int part, boolean[] held) {
        String text = Doc.part(part);
        int from = -1;
        for (int i = 0; i <= text.length(); i++) {
            boolean isOut = i < text.length() && !held[i];
            if (isOut && from < 0) from = i;
            if (!isOut && from >= 0) {
                String words = text.substring(from, i);
                boolean isSaid = words.chars().noneMatch(Character::isLetterOrDigit);
                Due.due("part " + part + ", held by no test: " + words, isSaid, true);
                from = -1;
            }
        }
    }
}

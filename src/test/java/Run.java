import java.io.IOException;
import java.nio.file.Files;
import java.nio.file.Path;
import java.util.Comparator;
import java.util.List;
import java.util.stream.Stream;

/** Commands that are run as a reader of README.md would run them, in places of their own. */
record Run(int code, String out, String err) {
    /** Ends with the first command that fails. */
    static Run sh(Path where, String commands) throws IOException, InterruptedException {
        Path err = Files.createTempFile("err", ".txt");
        Process p = new ProcessBuilder("sh", "-e", "-c", commands)
                .directory(where.toFile()).redirectError(err.toFile()).start();
        p.getOutputStream().close();
        String out = new String(p.getInputStream().readAllBytes());
        Run run = new Run(p.waitFor(), out, Files.readString(err));
        Files.delete(err);
        return run;
    }

    static void write(Path file, String text) throws IOException {
        Files.createDirectories(file.getParent());
        Files.writeString(file, text);
    }

    static void copy(Path from, Path to) throws IOException {
        Files.createDirectories(to.getParent());
        Files.copy(from, to);
    }

    static List<Path> under(Path of) throws IOException {
        try (Stream<Path> all = Files.walk(of)) {
            return all.toList();
        }
    }

    static void remove(Path of) throws IOException {
        for (Path p : under(of).stream().sorted(Comparator.reverseOrder()).toList()) {
            Files.delete(p);
        }
    }
}

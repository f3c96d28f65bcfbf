import java.io.IOException;
import java.nio.charset.StandardCharsets;
import java.nio.file.Files;
import java.nio.file.Path;
import java.nio.file.StandardCopyOption;
import java.util.Comparator;
import java.util.List;
import java.util.Set;
import java.util.stream.Collectors;
import java.util.stream.Stream;

/** A copy of the project where nothing has been built yet, with what is shared beside it, to run commands in. */
final class Copy {
    static final Path PROJECT = Path.of("").toAbsolutePath();
    // .ci/run, tried in a copy, comes to the tests that make copies: it must not go round for ever
    private static final String IN_COPY = "NAMES_ON_LOAN_IN_COPY";

    final Path main;
    final Path shared;

    Copy(String name) throws IOException {
        Path place = PROJECT.resolve("build").resolve(name);
        main = place.resolve("main");
        shared = place.resolve("shared");
        remove(place);
        copyTree(PROJECT, main, Set.of("build", ".git"));
        copyTree(PROJECT.resolve("../shared").normalize(), shared, Set.of());
    }

    static boolean isHere() {
        return System.getenv(IN_COPY) != null;
    }

    static void remove(Path place) throws IOException {
        if (!Files.exists(place)) {
            return;
        }
        List<Path> all;
        try (Stream<Path> walk = Files.walk(place)) {
            all = walk.sorted(Comparator.reverseOrder()).collect(Collectors.toList());
        }
        for (Path one : all) {
            Files.delete(one);
        }
    }

    private static void copyTree(Path from, Path to, Set<String> without) throws IOException {
        Files.createDirectories(to);
        List<Path> inside;
        try (Stream<Path> all = Files.list(from)) {
            inside = all.collect(Collectors.toList());
        }
        for (Path one : inside) {
            String name = one.getFileName().toString();
            if (without.contains(name)) {
                continue;
            }
            if (Files.isDirectory(one)) {
                copyTree(one, to.resolve(name), Set.of());
            } else {
                // with its rights, since .ci/run is run
                Files.copy(one, to.resolve(name), StandardCopyOption.COPY_ATTRIBUTES);
            }
        }
    }

    /** What a command printed, and how it ended. */
    static final class Ran {
        final String printed;
        final int code;

        Ran(String printed, int code) {
            this.printed = printed;
            this.code = code;
        }
    }

    /** A command as it is written, in the copy's own folder; what it says of errors is laid into a file. */
    Ran run(String command) throws IOException, InterruptedException {
        ProcessBuilder builder = new ProcessBuilder("sh", "-c", command).directory(main.toFile());
        builder.redirectError(main.resolveSibling("errors").toFile());
        builder.environment().put(IN_COPY, "1");
        Process process = builder.start();
        process.getOutputStream().close();
        String printed = new String(process.getInputStream().readAllBytes(), StandardCharsets.UTF_8);
        return new Ran(printed, process.waitFor());
    }

    String errors() throws IOException {
        return Files.readString(main.resolveSibling("errors"));
    }
}

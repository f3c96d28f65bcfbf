import java.io.IOException;
import java.nio.file.Files;
import java.nio.file.Path;
import java.util.List;
import java.util.stream.Collectors;
import java.util.stream.Stream;

/** .ci/run ends with 0 if all tests pass, and with 1 if one fails or there is none that is shared. */
public final class RunsOfCi {
    private static final String PASSES = "public final class %s { public static void main(String[] a) { } }\n";
    private static final String ENDS_WITH_1 = "public final class %s { public static void main(String[] a) { System.exit(1); } }\n";
    private static final String THROWS = "public final class %s { public static void main(String[] a) { throw new RuntimeException(); } }\n";
    private static final String NO_JAVA = "public final class %s {\n";
    // a shared test is compiled together with the class
    private static final String ASKS = "public final class %s { public static void main(String[] a) {"
        + " if (new NamesOnLoan().count(0) != 0) { System.exit(1); } } }\n";
    private static Copy copy;
    private static int asked = 0;
    private static int wrong = 0;

    private RunsOfCi() {
    }

    public static void main(String[] args) throws Exception {
        if (Copy.isHere()) {
            System.out.println(".ci/run is being tried already");
            return;
        }
        copy = new Copy("ci");
        Path own = copy.main.resolve("src/test/java");
        Path shared = copy.shared.resolve("tests");
        clear(own);
        clear(shared);

        lay(own, "Own", PASSES);
        due("no shared test", 1);
        lay(shared, "Shared", ASKS);
        due("an own and a shared test that pass", 0);
        for (String bad : new String[] {ENDS_WITH_1, THROWS, NO_JAVA}) {
            lay(own, "Another", bad);
            due("an own test: " + bad, 1);
            Files.delete(own.resolve("Another.java"));
            lay(shared, "Another", bad);
            due("a shared test: " + bad, 1);
            Files.delete(shared.resolve("Another.java"));
        }
        due("what failed is gone", 0);

        System.out.println(wrong == 0 ? asked + " runs of .ci/run ended as is due" : wrong + " faults");
        if (wrong != 0) {
            System.exit(1);
        }
    }

    private static void clear(Path folder) throws IOException {
        List<Path> files;
        try (Stream<Path> all = Files.list(folder)) {
            files = all.collect(Collectors.toList());
        }
        for (Path one : files) {
            Files.delete(one);
        }
    }

    private static void lay(Path folder, String name, String text) throws IOException {
        Files.writeString(folder.resolve(name + ".java"), String.format(text, name));
    }

    private static void due(String told, int want) throws Exception {
        Copy.Ran done = copy.run(".ci/run");
        asked++;
        if (done.code != want) {
            wrong++;
            System.out.println(".ci/run, " + told.trim() + ": ended with " + done.code + ", due is " + want);
            System.out.println(done.printed + copy.errors());
        }
    }
}

import java.io.IOException;
import java.lang.reflect.Method;
import java.lang.reflect.Modifier;
import java.nio.file.Files;
import java.nio.file.Path;
import java.util.ArrayList;
import java.util.List;
import java.util.Set;
import java.util.TreeSet;
import java.util.regex.Matcher;
import java.util.regex.Pattern;
import java.util.stream.Stream;

/**
 * README.md is true: each command in it is run as it is written there, in a copy of the project where
 * nothing has been built yet, and prints what is said; its program is the one that it names.
 */
public final class ReadmeCommands {
    private static final Pattern BLOCK = Pattern.compile("(?ms)^```(\\w*)\\n(.*?)^```$");
    private static final Pattern INLINE = Pattern.compile("`([^`\\n]+)`");
    private static Copy copy;
    private static int wrong = 0;
    private static int ran = 0;

    private ReadmeCommands() {
    }

    /** What stands between fences, and where. */
    private static final class Block {
        final String kind;
        final String text;
        final int start;
        final int end;

        Block(Matcher m) {
            kind = m.group(1);
            text = m.group(2);
            start = m.start();
            end = m.end();
        }

        boolean isCommands() {
            return kind.isEmpty() || kind.equals("sh");
        }
    }

    public static void main(String[] args) throws Exception {
        if (Copy.isHere()) {
            System.out.println("README.md is being tried already");
            return;
        }
        String page = Files.readString(Copy.PROJECT.resolve("README.md"));
        List<Block> blocks = blocks(page);
        sections(page, blocks);
        names(page);
        programs(page, blocks);
        copy = new Copy("readme");
        commandsInLines(page, commandsInBlocks(blocks));
        System.out.println(wrong == 0 ? ran + " commands of README.md work as they are written" : wrong + " faults");
        if (wrong != 0) {
            System.exit(1);
        }
    }

    private static void fault(String told) {
        wrong++;
        System.out.println("README.md: " + told);
    }

    private static List<Block> blocks(String page) {
        List<Block> found = new ArrayList<>();
        Matcher m = BLOCK.matcher(page);
        while (m.find()) {
            found.add(new Block(m));
        }
        return found;
    }

    /** It says how to use the class and how to run its tests: by commands, and by the one that runs all. */
    private static void sections(String page, List<Block> blocks) {
        for (String title : new String[] {"## Use\n", "## Tests\n"}) {
            int from = page.indexOf(title);
            int next = page.indexOf("\n## ", from + 1);
            int to = next < 0 ? page.length() : next;
            if (from < 0 || blocks.stream().noneMatch(b -> b.isCommands() && b.start > from && b.end <= to)) {
                fault("no commands under " + title.trim());
            }
        }
        if (blocks.stream().noneMatch(b -> b.isCommands() && b.text.equals(".ci/run\n"))) {
            fault("it does not say .ci/run");
        }
    }

    /** All calls and all tests are told, and the files that are told are there. */
    private static void names(String page) throws IOException {
        Set<String> told = new TreeSet<>();
        Matcher m = INLINE.matcher(page);
        while (m.find()) {
            told.add(m.group(1));
        }
        for (String name : callsAndTests()) {
            if (!told.contains(name)) {
                fault("it does not tell of " + name);
            }
        }
        for (String name : told) {
            if (name.contains("/") && !name.contains(" ") && !Files.exists(Copy.PROJECT.resolve(name))) {
                fault("there is no " + name);
            }
        }
    }

    private static Set<String> callsAndTests() throws IOException {
        Set<String> names = new TreeSet<>();
        for (Method call : NamesOnLoan.class.getDeclaredMethods()) {
            if (Modifier.isPublic(call.getModifiers())) {
                names.add(call.getName());
            }
        }
        try (Stream<Path> tests = Files.list(Copy.PROJECT.resolve("src/test/java"))) {
            tests.forEach(test -> names.add(test.getFileName().toString().replace(".java", "")));
        }
        return names;
    }

    /** A program that is shown is the file that is named last ahead of it. */
    private static void programs(String page, List<Block> blocks) throws IOException {
        for (Block block : blocks) {
            if (!block.kind.equals("java")) {
                continue;
            }
            String file = "";
            Matcher m = INLINE.matcher(page.substring(0, block.start));
            while (m.find()) {
                file = m.group(1).endsWith(".java") ? m.group(1) : file;
            }
            Path path = Copy.PROJECT.resolve(file);
            if (!Files.isRegularFile(path) || !Files.readString(path).equals(block.text)) {
                fault("the program is not as in " + file);
            }
        }
    }

    private static Set<String> commandsInBlocks(List<Block> blocks) throws Exception {
        Set<String> known = new TreeSet<>();
        for (int k = 0; k < blocks.size(); k++) {
            if (!blocks.get(k).isCommands()) {
                continue;
            }
            StringBuilder printed = new StringBuilder();
            for (String command : blocks.get(k).text.split("\n")) {
                known.add(command);
                printed.append(tried(command));
            }
            Block next = blocks.get(Math.min(k + 1, blocks.size() - 1));
            if (next.kind.equals("text") && !next.text.contentEquals(printed)) {
                fault("it says\n" + next.text + "and what is printed is\n" + printed);
            }
        }
        return known;
    }

    /** Commands that stand within a line of words must work, too. */
    private static void commandsInLines(String page, Set<String> known) throws Exception {
        Matcher m = INLINE.matcher(BLOCK.matcher(page).replaceAll(""));
        while (m.find()) {
            String command = m.group(1);
            boolean isOne = command.startsWith("javac ") || command.startsWith("java ") || command.startsWith(".ci/");
            if (isOne && known.add(command)) {
                tried(command);
            }
        }
    }

    private static String tried(String command) throws Exception {
        Copy.Ran done = copy.run(command);
        ran++;
        if (done.code != 0) {
            fault(command + " ended with " + done.code + " and printed\n" + done.printed + copy.errors());
        }
        return done.printed;
    }
}

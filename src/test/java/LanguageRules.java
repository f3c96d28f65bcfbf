import java.lang.reflect.Constructor;
import java.lang.reflect.Field;
import java.lang.reflect.Method;
import java.lang.reflect.Modifier;
import java.nio.file.Files;
import java.nio.file.Path;
import java.util.ArrayList;
import java.util.Arrays;
import java.util.List;
import java.util.Set;
import java.util.TreeSet;
import java.util.regex.Matcher;
import java.util.regex.Pattern;

/** What of LANGUAGE.md and of the document's face can be seen from the source and the compiled class. */
public final class LanguageRules {
    private static final String FACE = "person2 people3 mend3 of2 feed1 law0 burns1 left2 winter2 when2 last0 give3 allLast2 "
        + "fewest1 thaws1 ring2 crowd1 letter3 owe2 debt1 doors1 judge1 wore2 drawn3 lend2 pass1 thaw0 led1 image0 back0 "
        + "undo0 redo0 body1 act3 trace1 keep2 row3 put3 element2 shift5 taken2 count1";
    private static final Set<String> LIBRARY = Set.of("Math", "Integer", "Long", "System");
    // the functions that rule 4 names, and the one constant that the document's face needs
    private static final Set<String> LISTED = Set.of("Math.max", "Math.min", "Math.abs", "Math.floorDiv", "Math.floorMod",
        "Integer.compare", "Integer.max", "Integer.min", "Integer.bitCount", "Long.compare", "Long.max", "Long.min",
        "Long.bitCount", "System.arraycopy", "Long.MIN_VALUE");
    private static int wrong = 0;

    private static void rule(boolean holds, String told) {
        if (!holds) {
            wrong++;
            System.out.println(told);
        }
    }

    public static void main(String[] args) throws Exception {
        String source = Files.readString(Path.of("src/main/java/NamesOnLoan.java"));
        List<Class<?>> all = new ArrayList<>();
        all.add(NamesOnLoan.class);
        all.addAll(Arrays.asList(NamesOnLoan.class.getDeclaredClasses()));
        face();
        asWritten(source, Files.readString(Path.of("../shared/DOC.md")));
        insides(all);
        words(source, all);
        lengths(source);
        System.out.println(wrong == 0 ? "the rules hold, as far as they can be seen" : wrong + " rules are broken");
        if (wrong != 0) {
            System.exit(1);
        }
    }

    private static void face() throws Exception {
        Class<?> c = NamesOnLoan.class;
        rule(Modifier.isPublic(c.getModifiers()) && Modifier.isFinal(c.getModifiers()), "the class is not public and final");
        Set<String> want = new TreeSet<>(Arrays.asList(FACE.split(" ")));
        Set<String> has = new TreeSet<>();
        for (Method m : c.getDeclaredMethods()) {
            if (Modifier.isPublic(m.getModifiers())) {
                has.add(m.getName() + m.getParameterCount());
                Class<?> answer = m.getName().equals("element") ? long.class : int.class;
                rule(m.getReturnType() == answer && !Modifier.isStatic(m.getModifiers()), m + " is not as in the face");
            } else {
                rule(Modifier.isPrivate(m.getModifiers()), m + " is neither public nor private");
            }
        }
        rule(has.equals(want), "the face has " + has + ", due is " + want);
        Constructor<?>[] made = c.getDeclaredConstructors();
        rule(made.length == 1 && made[0].getParameterCount() == 0 && Modifier.isPublic(made[0].getModifiers()), "the constructor");
        Set<String> constants = new TreeSet<>();
        for (Field f : c.getDeclaredFields()) {
            if (Modifier.isPublic(f.getModifiers())) {
                constants.add(f.getName() + f.getInt(null));
            } else {
                rule(Modifier.isPrivate(f.getModifiers()), f + " is neither public nor private");
            }
        }
        rule(constants.equals(new TreeSet<>(Set.of("BAD-1", "NOT-2", "FULL-3", "STATE-5", "VOID-2000000000"))), "constants " + constants);
    }

    /** The constants, the constructor and every call stand as the document writes them, in its order, under its headings. */
    private static void asWritten(String source, String document) {
        List<String> wanted = new ArrayList<>();
        Matcher headings = Pattern.compile("Ahead of the calls `(\\w+)`[^-]* the interface says: ---- ([^.]+)\\.").matcher(document);
        int from = document.indexOf("```java") + "```java".length();
        for (String line : document.substring(from, document.indexOf("```", from)).split("\n")) {
            if (line.startsWith("    public")) {
                wanted.add(line.contains("(") ? line.replace(");", ") {") : line);
            }
        }
        int found = 0;
        while (headings.find()) {
            for (int k = 0; k < wanted.size(); k++) {
                if (wanted.get(k).contains(" " + headings.group(1) + "(")) {
                    wanted.add(k, "    // ---- " + headings.group(2));
                    found++;
                    break;
                }
            }
        }
        rule(found == 6 && wanted.size() == 6 + 2 + 42, "the document's face has " + wanted.size() + " lines, " + found + " headings");
        int at = 0;
        for (String line : wanted) {
            int next = source.indexOf("\n" + line + "\n", at);
            rule(next >= 0, "the source lacks, at its place: " + line.trim());
            at = Math.max(at, next);
        }
    }

    private static void insides(List<Class<?>> all) {
        Set<String> open = new TreeSet<>();
        for (String one : FACE.split(" ")) {
            open.add(one.replaceAll("[0-9]", ""));
        }
        rule(all.size() <= 12, all.size() + " classes");
        for (Class<?> c : all) {
            int fields = 0;
            for (Field f : c.getDeclaredFields()) {
                boolean still = Modifier.isStatic(f.getModifiers());
                rule(!still || Modifier.isFinal(f.getModifiers()), f + " is static and not final");
                fields += still ? 0 : 1;
            }
            rule(fields <= 20, c + " has " + fields + " fields");
            for (Method m : c.getDeclaredMethods()) {
                rule(m.getParameterCount() <= 7, m + " takes too many");
                rule(c == NamesOnLoan.class && Modifier.isPublic(m.getModifiers()) || !open.contains(m.getName()), m + " bears a public name");
            }
            rule(c == NamesOnLoan.class || Modifier.isStatic(c.getModifiers()) && !Modifier.isPublic(c.getModifiers()), c + " is not static");
            rule(c.getDeclaredClasses().length == 0 || c == NamesOnLoan.class, c + " has classes inside");
        }
    }

    private static void words(String source, List<Class<?>> all) {
        for (int k = 0; k < source.length(); k++) {
            char c = source.charAt(k);
            rule(c == '\n' || c >= ' ' && c < 127, "sign " + (int) c + " at " + k);
        }
        String bare = source.replaceAll("(?s)/\\*.*?\\*/", " ").replaceAll("//[^\n]*", " ").replaceAll("'[^']'", "0").replaceAll("\"[^\"]*\"", "0");
        for (String word : new String[] {"throw", "try", "catch", "synchronized", "assert", "import", "package", "throws", "native", "volatile",
            "transient", "protected", "equals", "hashCode", "toString", "double", "float", "Object", "var", "yield", "record", "abstract"}) {
            rule(!Pattern.compile("\\b" + word + "\\b").matcher(bare).find(), "the word " + word);
        }
        for (String sign : new String[] {"->", "::", "@", "Exact"}) {
            rule(!bare.contains(sign), "the sign " + sign);
        }
        Set<String> own = new TreeSet<>();
        for (Class<?> c : all) {
            own.add(c.getSimpleName());
        }
        Matcher m = Pattern.compile("\\b([A-Z][a-z]\\w*)").matcher(bare);
        while (m.find()) {
            rule(own.contains(m.group(1)) || LIBRARY.contains(m.group(1)), "the class " + m.group(1));
        }
        library(bare);
    }

    private static void library(String bare) {
        Matcher m = Pattern.compile("\\b(Math|Integer|Long|System)\\s*\\.\\s*(\\w+)").matcher(bare);
        while (m.find()) {
            String used = m.group(1) + "." + m.group(2);
            rule(LISTED.contains(used), used + " is not in the library that is listed");
        }
    }

    private static void lengths(String source) {
        String[] lines = source.split("\n");
        for (int k = 0; k < lines.length; k++) {
            Matcher m = Pattern.compile("^( {4}| {8})\\w[^=;]*\\) \\{$").matcher(lines[k]);
            if (m.find()) {
                int end = k;
                while (end < lines.length && !lines[end].equals(m.group(1) + "}")) {
                    end++;
                }
                rule(end - k < 50, "line " + (k + 1) + ": a method of " + (end - k) + " lines");
            }
            rule(lines[k].length() <= 120, "line " + (k + 1) + " is long");
        }
    }
}

import java.nio.file.Files;
import java.nio.file.Path;
import java.util.Set;
import java.util.TreeSet;
import java.util.function.Supplier;
import java.util.function.ToLongFunction;

/** Answers told under the sentence of the document that they hold, so that a fault names its sentence. */
final class Sentences {
    static final int MIN = Integer.MIN_VALUE;
    static final int MAX = Integer.MAX_VALUE;
    static final int BAD = -1;
    static final int NOT = -2;
    static final int FULL = -3;
    static final int STATE = -5;
    static final int MISSING = -11;
    static final int OTHER_KIND = -12;
    static final int NO_PLACE = -13;
    static final int SIZE_BELOW_0 = -14;

    private static final int PROMISES = 43;
    private static final Set<Integer> TOLD = new TreeSet<>();
    private static String[] document;
    private static String now = "";
    private static int sentences = 0;
    private static int asked = 0;
    private static int wrong = 0;

    private Sentences() {
    }

    /** What follows holds a promise by these words, which stand in its own lines or in the Terms. */
    static void of(int promise, String words) {
        now = "promise " + promise + ", \"" + words + "\"";
        sentences++;
        TOLD.add(promise);
        if (!stands(promise, words)) {
            fault("these words are not in the document");
        }
    }

    private static boolean stands(int promise, String words) {
        if (document == null) {
            document = parts();
        }
        String wanted = plain(words);
        return document.length <= promise || document[0].contains(wanted) || document[promise].contains(wanted);
    }

    /** What stands ahead of the promises, and each promise; nothing, where there is no document to read. */
    private static String[] parts() {
        try {
            return plain(Files.readString(Path.of("../shared/DOC.md"))).split("## Promise ");
        } catch (java.io.IOException e) {
            System.out.println("no document to compare the words with");
            return new String[0];
        }
    }

    private static String plain(String text) {
        return text.replaceAll("\\s+", " ");
    }

    private static void fault(String told) {
        wrong++;
        System.out.println(now + ": " + told);
    }

    static void due(String call, long got, long want) {
        asked++;
        if (got != want) {
            fault(call + " answered " + got + ", due is " + want);
        }
    }

    /** A call that is refused, and leaves an object as like another one to which it never came. */
    static void refused(Supplier<NamesOnLoan> land, String call, ToLongFunction<NamesOnLoan> asking, long want) {
        NamesOnLoan x = land.get();
        due(call, asking.applyAsLong(x), want);
        leaves(land, call, asking);
    }

    /** A call that leaves all as it was, whatever it answers. */
    static void leaves(Supplier<NamesOnLoan> land, String call, ToLongFunction<NamesOnLoan> asking) {
        for (int part = 0; part < Whole.PARTS; part++) {
            NamesOnLoan x = land.get();
            NamesOnLoan y = land.get();
            asking.applyAsLong(x);
            String told = Whole.part(x, part);
            String untouched = Whole.part(y, part);
            asked++;
            if (!told.equals(untouched)) {
                fault(call + " changed part " + part + ": " + told + " instead of " + untouched);
            }
        }
    }

    static void end() {
        for (int promise = 1; promise <= PROMISES; promise++) {
            if (!TOLD.contains(promise)) {
                now = "promise " + promise;
                fault("no sentence of it is tested");
            }
        }
        System.out.println(wrong == 0 ? sentences + " sentences hold by " + asked + " answers" : wrong + " faults");
        if (wrong != 0) {
            System.exit(1);
        }
    }
}

import java.io.IOException;
import java.nio.file.Files;
import java.nio.file.Path;
import java.util.ArrayList;
import java.util.LinkedHashMap;
import java.util.LinkedHashSet;
import java.util.List;
import java.util.Map;
import java.util.Set;
import java.util.function.IntSupplier;
import java.util.function.IntUnaryOperator;

/**
 * For tests that follow the document sentence by sentence: a sentence is quoted with says, and the
 * checks behind it are its test. At the end every sentence of the document must have been quoted.
 */
abstract class Sentences {
    static final int NOT_FOUND = -1, BAD_VALUE = -2, FULL = -3;
    static final int SYNTAX = -11, RANGE = -12, NAME = -13, DUPLICATE = -14, COUNT = -15;
    static final int ANVILS = 0, MARGIN = 1, RULE = 2;
    static final int LOW = Integer.MIN_VALUE, HIGH = Integer.MAX_VALUE;

    private static final Path DOCUMENT = Path.of("..", "shared", "DOC.md");
    /** Titles, and lines that only tell of what kind a parameter or an answer is: alone they forbid nothing. */
    private static final Set<String> WITHOUT_A_TEST = Set.of("FORGE.", "RUN.", "BEST ORDER.", "CHANGES.", "TEXT FORMAT for load.",
        "Each minute has these parts:", "(4) The minute passes.", "The constants:",
        "The constructor and the methods follow, a promise each: the signature, then what it does.",
        "- `iron`: index of an iron", "- `place`: index of a fire place", "- `step`: index of a step of the iron",
        "- `anvil`: index of an anvil, from 0", "- `one`: position in the order", "- `other`: position in the order",
        "Returns the number of minutes.", "Returns the number of times.", "Returns the temperature.", "Returns the number.",
        "Returns the index of the iron.", "A scheduler for a forge: irons are heated in the places of a fire, worked on anvils as long as "
            + "they are hot enough, and cool down in the meantime.",
        "It simulates the work minute by minute by an order of the irons, and finds the order with which all irons are finished first.");

    private static final Map<String, Set<String>> quoted = new LinkedHashMap<>();
    private static String part = "";
    private static String sentence = "";
    private static int checks = 0;
    private static int checksOfSentence = 1;
    private static int wrong = 0;

    /** The checks that follow are about the part of the document with this title. */
    static void part(String title) {
        part = title;
        quoted.computeIfAbsent(title, key -> new LinkedHashSet<>());
    }

    static void says(String words) {
        if (checksOfSentence == 0) fault("no check stands behind: " + sentence);
        sentence = words;
        checksOfSentence = 0;
        quoted.get(part).add(words);
    }

    private static void fault(String what) {
        wrong++;
        System.out.println(part + ": " + what);
    }

    static void due(String call, String got, String want) {
        checks++;
        checksOfSentence++;
        if (!got.equals(want)) fault(call + " answered " + got + ", due is " + want + ", for: " + sentence);
    }

    static void due(String call, int got, int want) {
        due(call, Integer.toString(got), Integer.toString(want));
    }

    static void due(String call, boolean got, boolean want) {
        due(call, Boolean.toString(got), Boolean.toString(want));
    }

    static void throwsIndex(String call, IntSupplier supplier) {
        String outcome;
        try {
            outcome = Integer.toString(supplier.getAsInt());
        } catch (RuntimeException exception) {
            outcome = exception.getClass().getSimpleName();
        }
        due(call, outcome, "IndexOutOfBoundsException");
    }

    /** The call must refuse each index outside 0 to count - 1, near and far. */
    static void refuses(String call, int count, IntUnaryOperator method) {
        for (int bad : new int[] {-1, count, count + 1, 6, 479, LOW, HIGH}) {
            throwsIndex(call + "(" + bad + ") of " + count, () -> method.applyAsInt(bad));
        }
    }

    /** The calls must be those of a list of answers, from a first argument on. */
    static void row(String call, int first, IntUnaryOperator method, int... want) {
        for (int i = 0; i < want.length; i++) {
            due(call + " at " + (first + i), method.applyAsInt(first + i), want[i]);
        }
    }

    /** What a text leads to on a new object: the answer of load and the position of its error. */
    static void loads(String text, int code, int position) {
        ForgeScheduler x = new ForgeScheduler();
        due("load of " + shown(text), ForgeText.load(x, text), code);
        due("errorPosition() of " + shown(text), x.errorPosition(), position);
    }

    static String shown(String text) {
        String plain = text.replace("\n", "\\n");
        return '"' + (plain.length() > 60 ? ".. " + plain.substring(plain.length() - 60) : plain) + '"';
    }

    /** All of a forge that can be asked for, the run and the best order too. */
    static String state(ForgeScheduler x) {
        StringBuilder all = new StringBuilder();
        for (int i = 0; i < x.ironCount(); i++) {
            all.append("iron ").append(x.mass(i)).append(' ').append(x.cooling(i)).append(" at ").append(x.positionOf(i));
            for (int s = 0; s < x.stepCount(i); s++) {
                all.append(" step ").append(x.stepHeat(i, s)).append(' ').append(x.stepMinutes(i, s));
            }
            all.append(" ends ").append(x.finishOf(i)).append("; ");
        }
        for (int p = 0; p < x.placeCount(); p++) {
            all.append("place ").append(x.placeRate(p)).append(' ').append(x.placeLimit(p)).append("; ");
        }
        for (int s = ANVILS; s <= RULE; s++) all.append("set ").append(x.getSetting(s)).append("; ");
        all.append("order ").append(x.orderCode()).append(" best ").append(x.bestFinish()).append(" of ").append(x.bestOrders());
        return all.append(" changes ").append(x.undoCount()).toString();
    }

    /** Ends a test that stands for the parts of the document whose titles match. */
    static void end(String test, String titles) {
        if (checksOfSentence == 0) fault("no check stands behind: " + sentence);
        part = "the document";
        int sentences = compareWithDocument(titles);
        System.out.println(test + ": " + sentences + " sentences, " + checks + " checks, " + wrong + " wrong");
        if (wrong != 0) System.exit(1);
    }

    private static int compareWithDocument(String titles) {
        if (!Files.isReadable(DOCUMENT)) {
            System.out.println("the document is not at " + DOCUMENT + ", so its sentences are not counted");
            return 0;
        }
        Map<String, Set<String>> said = document(titles);
        int sentences = 0;
        for (String title : said.keySet()) {
            for (String words : said.get(title)) {
                sentences++;
                if (!quoted.getOrDefault(title, Set.of()).contains(words)) fault("no test for \"" + words + "\" of " + title);
            }
        }
        for (String title : quoted.keySet()) {
            for (String words : quoted.get(title)) {
                if (!said.getOrDefault(title, Set.of()).contains(words)) fault(title + " does not say \"" + words + "\"");
            }
        }
        return sentences;
    }

    private static Map<String, Set<String>> document(String titles) {
        Map<String, Set<String>> said = new LinkedHashMap<>();
        String title = "";
        for (String line : linesOfDocument()) {
            String words = line.trim();
            if (line.startsWith("#")) title = words.replace("#", "").trim();
            else if (title.matches(titles) && !words.isEmpty() && !words.startsWith("`")) {
                Set<String> sentences = said.computeIfAbsent(title, key -> new LinkedHashSet<>());
                for (String part : words.split("(?<=[.])\\s+(?=[A-Z(])")) {
                    if (!WITHOUT_A_TEST.contains(part)) sentences.add(part);
                }
            }
        }
        return said;
    }

    private static List<String> linesOfDocument() {
        try {
            return Files.readAllLines(DOCUMENT);
        } catch (IOException exception) {
            fault("cannot be read: " + exception);
            return new ArrayList<>();
        }
    }
}

import java.io.IOException;
import java.lang.reflect.Constructor;
import java.lang.reflect.Field;
import java.lang.reflect.Member;
import java.lang.reflect.Method;
import java.lang.reflect.Modifier;
import java.nio.file.Files;
import java.nio.file.Path;
import java.util.ArrayList;
import java.util.List;
import java.util.Map;
import java.util.Set;
import java.util.TreeMap;
import java.util.TreeSet;

/** The public face is that of the document, with nothing more to be seen from outside. */
public final class FaceTest {
    private static final Path DOCUMENT = Path.of("..", "shared", "DOC.md");
    private static final Path PROGRAM = Path.of("src", "main", "java", "ForgeScheduler.java");
    private static final Map<String, Integer> CONSTANTS = Map.ofEntries(Map.entry("ANVILS", 0), Map.entry("MARGIN", 1),
        Map.entry("RULE", 2), Map.entry("RACK", 0), Map.entry("NOT_FOUND", -1), Map.entry("BAD_VALUE", -2), Map.entry("FULL", -3),
        Map.entry("SYNTAX_ERROR", -11), Map.entry("RANGE_ERROR", -12), Map.entry("NAME_ERROR", -13),
        Map.entry("DUPLICATE_ERROR", -14), Map.entry("COUNT_ERROR", -15));
    /** Name and number of parameters, all of them int; * marks those that are declared to throw. */
    private static final List<String> METHODS = List.of("feed 5", "load 1", "errorPosition 0", "ironCount 0", "placeCount 0",
        "undoCount 0", "ironNamed 1", "mass 1 *", "cooling 1 *", "stepCount 1 *", "stepHeat 2 *", "stepMinutes 2 *",
        "placeRate 1 *", "placeLimit 1 *", "getSetting 1", "ironAt 1 *", "positionOf 1 *", "finish 0", "finishOf 1 *",
        "heatAfter 2 *", "whereIn 2 *", "stepsAfter 2 *", "coldStops 1 *", "heats 1 *", "fireMinutes 1 *", "anvilMinutes 1 *",
        "placeMinutes 1 *", "hottest 1 *", "lastIron 0", "bestFinish 0", "bestIronAt 1 *", "bestOrders 0", "finishWithSwap 2 *",
        "finishWithMargin 1", "bestMargin 0", "finishWithoutPlace 1 *", "finishWithoutIron 1 *", "finishAlone 1 *", "orderCode 0",
        "setSetting 2", "swap 2", "useBestOrder 0", "setPlace 3", "addStep 3", "removeStep 1", "undo 0", "rackMinutes 1 *",
        "firstWork 1 *", "ironInPlace 2 *", "ironOnAnvil 2 *", "finishedBy 1", "idleMinutes 0", "finishWithAnvils 1", "bestRule 0",
        "finishWithRate 2 *", "leastRate 1 *", "criticalIrons 0");
    private static final Set<String> BOOLEAN = Set.of("swap", "setPlace");

    private static int wrong = 0;

    public static void main(String[] args) throws Exception {
        same("the class is public and final", Modifier.toString(ForgeScheduler.class.getModifiers()), "public final");
        constructors();
        constants();
        methods();
        declarations();
        System.out.println("FaceTest: " + (wrong == 0 ? "the face is that of the document" : wrong + " wrong"));
        if (wrong != 0) System.exit(1);
    }

    private static void same(String what, Object got, Object want) {
        if (got.equals(want)) return;
        wrong++;
        System.out.println(what + ": found " + got + ", due is " + want);
    }

    private static boolean isSeen(Member member) {
        return !Modifier.isPrivate(member.getModifiers()) && !member.isSynthetic();
    }

    private static void constructors() {
        Constructor<?>[] all = ForgeScheduler.class.getDeclaredConstructors();
        same("number of constructors", all.length, 1);
        same("the constructor", all[0].toString(), "public ForgeScheduler()");
    }

    private static void constants() throws IllegalAccessException {
        Map<String, Integer> found = new TreeMap<>();
        for (Field field : ForgeScheduler.class.getDeclaredFields()) {
            if (!isSeen(field)) continue;
            same(field.getName(), Modifier.toString(field.getModifiers()) + " " + field.getType(), "public static final int");
            found.put(field.getName(), field.getInt(null));
        }
        same("the constants", found, new TreeMap<>(CONSTANTS));
    }

    private static void methods() {
        Set<String> found = new TreeSet<>();
        Set<String> names = new TreeSet<>();
        for (Method method : ForgeScheduler.class.getDeclaredMethods()) {
            if (!isSeen(method)) continue;
            names.add(method.getName());
            found.add(method.getName() + " " + method.getParameterCount() + (method.getExceptionTypes().length > 0 ? " *" : ""));
            same(method.getName(), Modifier.toString(method.getModifiers()), "public");
            same("type of " + method.getName(), method.getReturnType(), BOOLEAN.contains(method.getName()) ? boolean.class : int.class);
            for (Class<?> type : method.getParameterTypes()) same("parameter of " + method.getName(), type, int.class);
            for (Class<?> type : method.getExceptionTypes()) same("throws of " + method.getName(), type, IndexOutOfBoundsException.class);
        }
        same("the methods", found, new TreeSet<>(METHODS));
        for (Method method : ForgeScheduler.class.getDeclaredMethods()) {
            if (!isSeen(method)) same("a private method named " + method.getName(), names.contains(method.getName()), false);
        }
    }

    /** Each line of the document's face stands in the class as it is written there, and each has its promise. */
    private static void declarations() throws IOException {
        if (!Files.isReadable(DOCUMENT)) {
            System.out.println("the document is not at " + DOCUMENT + ", so its face is not compared");
            return;
        }
        List<String> face = new ArrayList<>();
        List<String> promised = new ArrayList<>();
        boolean inFace = false;
        for (String line : Files.readAllLines(DOCUMENT)) {
            if (line.startsWith("```")) inFace = line.equals("```java");
            else if (inFace) face.add(line.trim());
            else if (line.startsWith("`")) promised.add("public " + line.replace("`", "") + ";");
        }
        List<String> written = new ArrayList<>();
        for (String line : Files.readAllLines(PROGRAM)) {
            if (line.contains("public ")) written.add(line.trim().replaceAll(" \\{$", line.contains("(") ? ";" : " {"));
        }
        face.remove("}");
        same("the public declarations of the class", written, face);
        same("the lines of the promises", promised, face.subList(face.indexOf("public ForgeScheduler();"), face.size()));
        same("the number of promises", promised.size(), METHODS.size() + 1);
    }
}

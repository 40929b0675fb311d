import java.lang.reflect.Method;
import java.lang.reflect.Modifier;
import java.net.URL;
import java.net.URLClassLoader;
import java.nio.file.Files;
import java.nio.file.Path;
import java.util.ArrayList;
import java.util.List;
import java.util.Set;
import java.util.TreeSet;
import java.util.regex.Matcher;
import java.util.regex.Pattern;

/** README.md tells the truth: its example gives the answers that stand behind it, and it names each method once. */
public final class ReadmeTest {
    private static final Pattern ANSWERED = Pattern.compile("int (\\w+) = .*; *// (-?\\d+).*");
    private static final Pattern NAMED = Pattern.compile("`(\\w+)`");

    private static int checks = 0;
    private static int wrong = 0;

    public static void main(String[] args) throws Exception {
        List<String> lines = Files.readAllLines(Path.of("README.md"));
        int begin = lines.indexOf("```java");
        List<String> example = lines.subList(begin + 1, begin + lines.subList(begin, lines.size()).indexOf("```"));
        answersOf(example);
        namesIn(lines.subList(lines.indexOf("The methods, by what they are for:"), lines.indexOf("## How it is built")));
        System.out.println("ReadmeTest: " + checks + " checks, " + wrong + " wrong");
        if (wrong != 0) System.exit(1);
    }

    private static void due(String what, Object got, Object want) {
        checks++;
        if (got.equals(want)) return;
        wrong++;
        System.out.println(what + ": found " + got + ", due is " + want);
    }

    private static void answersOf(List<String> example) throws Exception {
        List<String> names = new ArrayList<>();
        List<Integer> answers = new ArrayList<>();
        for (String line : example) {
            Matcher matcher = ANSWERED.matcher(line);
            if (!matcher.matches()) continue;
            names.add(matcher.group(1));
            answers.add(Integer.parseInt(matcher.group(2)));
        }
        due("the example has answers", names.size() > 5, true);
        int[] got = run(example, names);
        for (int i = 0; i < got.length; i++) due(names.get(i) + " of the example", got[i], answers.get(i));
    }

    private static int[] run(List<String> example, List<String> names) throws Exception {
        String source = "public final class Example {\n  public static int[] answers() {\n" + String.join("\n", example)
            + "\n    return new int[] {" + String.join(", ", names) + "};\n  }\n}\n";
        Path directory = Files.createTempDirectory("readme");
        Path file = Files.writeString(directory.resolve("Example.java"), source);
        Path classes = directory.resolve("Example.class");
        try {
            int failed = new ProcessBuilder("javac", "-cp", System.getProperty("java.class.path"), "-d", directory.toString(),
                file.toString()).inheritIO().start().waitFor();
            due("the example compiles", failed, 0);
            if (failed != 0) return new int[0];
            try (URLClassLoader loader = new URLClassLoader(new URL[] {directory.toUri().toURL()})) {
                return (int[]) loader.loadClass("Example").getMethod("answers").invoke(null);
            }
        } finally {
            Files.deleteIfExists(classes);
            Files.deleteIfExists(file);
            Files.deleteIfExists(directory);
        }
    }

    private static void namesIn(List<String> lists) {
        List<String> named = new ArrayList<>();
        Set<String> methods = new TreeSet<>();
        for (Method method : ForgeScheduler.class.getDeclaredMethods()) {
            if (Modifier.isPublic(method.getModifiers())) methods.add(method.getName());
        }
        for (String line : lists) {
            if (!line.startsWith("- ") && !line.startsWith("  ")) continue;
            Matcher matcher = NAMED.matcher(line);
            while (matcher.find()) named.add(matcher.group(1));
        }
        due("the methods that the lists name", new TreeSet<>(named), methods);
        due("how many names the lists have", named.size(), methods.size());
    }
}

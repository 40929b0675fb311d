import java.lang.reflect.InvocationTargetException;
import java.lang.reflect.Method;
import java.util.ArrayList;
import java.util.Comparator;
import java.util.List;
import java.util.Random;

/** Runs of calls that a fixed seed chooses: each call must answer as the plain reference does. */
public final class ReferenceTest {
    private static final int RUNS = 400;
    private static final int CALLS = 250;
    private static final int[] EDGES = {Integer.MIN_VALUE, Integer.MAX_VALUE, -1, 0, 1, 2, 3, 5, 6, 7, 99, 100, 479, 480, 481,
        500, 501, 1400, 1401, 1500, 1501, 2000, 2001, 67108864, 33554432};
    /** Calls that try hundreds of orders or rates; the reference is slow on them, so they come less often. */
    private static final List<String> DEAR = List.of("bestFinish", "bestIronAt", "bestOrders", "useBestOrder", "bestMargin", "leastRate");

    private static int wrong = 0;
    private static long calls = 0;

    public static void main(String[] args) throws Exception {
        List<Method> methods = new ArrayList<>();
        for (Method method : ForgeScheduler.class.getDeclaredMethods()) {
            if (java.lang.reflect.Modifier.isPublic(method.getModifiers())) methods.add(method);
        }
        methods.sort(Comparator.comparing(Method::getName));
        int runs = args.length > 0 ? Integer.parseInt(args[0]) : RUNS;
        long seed = args.length > 1 ? Long.parseLong(args[1]) : 1;
        for (int run = 0; run < runs && wrong < 20; run++) {
            oneRun(run, new Random(seed * 1000003 + run), methods);
        }
        System.out.println(wrong == 0 ? "ReferenceTest: " + calls + " calls answer as the reference" : "ReferenceTest: " + wrong + " wrong answers");
        if (wrong != 0) System.exit(1);
    }

    private static void oneRun(int run, Random random, List<Method> methods) throws Exception {
        ForgeScheduler tested = new ForgeScheduler();
        ReferenceForge due = new ReferenceForge();
        int most = random.nextInt(10) == 0 ? 6 : 1 + random.nextInt(4);
        loadText(run, tested, due, random, most);
        for (int call = 0; call < CALLS && wrong < 20; call++) {
            if (random.nextInt(60) == 0) {
                loadText(run, tested, due, random, most);
                continue;
            }
            Method method = methods.get(random.nextInt(methods.size()));
            String name = method.getName();
            if (DEAR.contains(name) && random.nextInt(due.ironCount() > 4 ? 40 : 4) != 0) continue;
            if ((name.equals("feed") || name.equals("load")) && random.nextInt(4) != 0) continue;
            Object[] values = new Object[method.getParameterCount()];
            for (int i = 0; i < values.length; i++) values[i] = value(name, i, random);
            compare(run, tested, due, method, values);
        }
    }

    private static Object value(String name, int parameter, Random random) {
        if (name.equals("feed")) return random.nextInt();
        if (random.nextInt(20) == 0) return EDGES[random.nextInt(EDGES.length)];
        if (name.equals("ironNamed")) return (1 + random.nextInt(7)) << 25 | (random.nextBoolean() ? random.nextInt(4) << 20 : 0);
        if (name.equals("finishWithMargin")) return random.nextInt(502);
        if (name.equals("setSetting") && parameter == 1) return random.nextBoolean() ? random.nextInt(4) : random.nextInt(502);
        if (name.equals("finishedBy") || parameter == 1 && List.of("heatAfter", "whereIn", "stepsAfter", "ironInPlace", "ironOnAnvil").contains(name)) {
            return random.nextInt(4) == 0 ? random.nextInt(482) : random.nextInt(60);
        }
        if (name.equals("finishWithRate") && parameter == 1 || name.equals("setPlace") && parameter == 1) return random.nextInt(2001);
        if (name.equals("setPlace") && parameter == 2) return 90 + random.nextInt(1412);
        if (name.equals("addStep") && parameter == 1) return 90 + random.nextInt(1000);
        if (name.equals("addStep") && parameter == 2) return random.nextInt(4) == 0 ? random.nextInt(32) : 1 + random.nextInt(6);
        return random.nextInt(4) == 0 ? random.nextInt(7) - 1 : random.nextInt(3);
    }

    private static void loadText(int run, ForgeScheduler tested, ReferenceForge due, Random random, int most) throws Exception {
        StringBuilder text = new StringBuilder(text(random, most));
        if (random.nextInt(4) == 0 && text.length() > 0) spoil(text, random);
        compareLoad(run, tested, due, text.toString(), random.nextInt(10) == 0 ? random.nextInt(12) : 0);
        if (random.nextInt(4) != 0) return;
        compareLoad(run, tested, due, text(random, most), 0);
    }

    private static void compareLoad(int run, ForgeScheduler tested, ReferenceForge due, String text, int less) throws Exception {
        Method feed = ForgeScheduler.class.getMethod("feed", int.class, int.class, int.class, int.class, int.class);
        Method load = ForgeScheduler.class.getMethod("load", int.class);
        compare(run, tested, due, load, new Object[] {0});
        int length = text.length();
        for (Object[] words : ForgeText.words(text)) compare(run, tested, due, feed, words);
        compare(run, tested, due, load, new Object[] {length - less});
        compare(run, tested, due, ForgeScheduler.class.getMethod("errorPosition"), new Object[0]);
    }

    private static void spoil(StringBuilder text, Random random) {
        String[] pieces = {";", " ", "x", "iron", "set rule 1;", "step", "0", "9999999999999999999999", "!", "\u00e9", "a", "toolong", "\n", "place 5 500;"};
        int at = random.nextInt(text.length());
        if (random.nextBoolean()) text.deleteCharAt(at);
        else text.insert(at, pieces[random.nextInt(pieces.length)]);
    }

    private static String text(Random random, int most) {
        StringBuilder text = new StringBuilder();
        int irons = random.nextInt(8) == 0 ? random.nextInt(8) : 1 + random.nextInt(most);
        int places = random.nextInt(12) == 0 ? random.nextInt(5) : 1 + random.nextInt(3);
        int light = random.nextInt(3);
        for (int i = 0; i < irons; i++) {
            text.append("iron ").append(name(i)).append(' ').append(1 + random.nextInt(light == 0 ? 9 : 3)).append(' ')
                .append(1 + random.nextInt(light == 1 ? 99 : 30)).append(";");
        }
        if (random.nextBoolean()) text.append("set anvils ").append(1 + random.nextInt(3)).append(";\n");
        if (random.nextBoolean()) text.append("set margin ").append(random.nextInt(random.nextBoolean() ? 80 : 501)).append(" ;");
        if (random.nextInt(3) != 0) text.append("set rule ").append(random.nextInt(3)).append(';');
        for (int p = 0; p < places; p++) {
            text.append("place ").append(50 + random.nextInt(light == 2 ? 1951 : 600)).append(' ')
                .append(random.nextInt(6) == 0 ? 100 + random.nextInt(1401) : 900 + random.nextInt(601)).append(";");
        }
        int steps = random.nextInt(irons * 3 + 1);
        for (int s = 0; s < steps; s++) {
            text.append("step ").append(name(random.nextInt(irons))).append(' ').append(100 + random.nextInt(random.nextInt(8) == 0 ? 1301 : 800))
                .append(' ').append(1 + random.nextInt(random.nextInt(4) == 0 ? 30 : 6)).append(';');
        }
        return text.toString();
    }

    private static String name(int iron) {
        return (char) ('a' + iron) + (iron % 2 == 1 ? "bcdefgh".substring(0, iron % 3) : "");
    }

    private static void compare(int run, ForgeScheduler tested, ReferenceForge due, Method method, Object[] values) throws Exception {
        String want = answer(due, ReferenceForge.class.getMethod(method.getName(), method.getParameterTypes()), values);
        String got = answer(tested, method, values);
        calls++;
        if (got.equals(want)) return;
        wrong++;
        System.out.println("run " + run + ": " + method.getName() + java.util.Arrays.toString(values) + " answered " + got + ", due is " + want);
    }

    private static String answer(Object object, Method method, Object[] values) throws IllegalAccessException {
        try {
            return String.valueOf(method.invoke(object, values));
        } catch (InvocationTargetException thrown) {
            return "throws." + thrown.getCause().getClass().getSimpleName();
        }
    }
}

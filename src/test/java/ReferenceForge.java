import java.util.ArrayDeque;
import java.util.ArrayList;
import java.util.Arrays;
import java.util.Comparator;
import java.util.Deque;
import java.util.HashSet;
import java.util.LinkedHashMap;
import java.util.List;
import java.util.Map;
import java.util.Set;
import java.util.function.Consumer;
import java.util.regex.Matcher;
import java.util.regex.Pattern;
import java.math.BigInteger;

/**
 * The document once more, written for nothing but to be compared with: no caches, no early ends,
 * everything simulated anew for every call. It shares no code with ForgeScheduler.
 */
public final class ReferenceForge {
    static final class Step {
        final int heat, minutes;
        Step(int heat, int minutes) { this.heat = heat; this.minutes = minutes; }
    }

    static final class Iron {
        final String name;
        final int mass, cooling;
        final List<Step> steps = new ArrayList<>();
        Iron(String name, int mass, int cooling) { this.name = name; this.mass = mass; this.cooling = cooling; }
        Iron copy() {
            Iron copy = new Iron(name, mass, cooling);
            copy.steps.addAll(steps);
            return copy;
        }
    }

    static final class State {
        final List<Iron> irons = new ArrayList<>();
        final List<int[]> places = new ArrayList<>();
        final List<Integer> order = new ArrayList<>();
        int anvils = 1, margin = 50, rule = 0;
        State copy() {
            State copy = new State();
            for (Iron iron : irons) copy.irons.add(iron.copy());
            for (int[] place : places) copy.places.add(place.clone());
            copy.order.addAll(order);
            copy.anvils = anvils;
            copy.margin = margin;
            copy.rule = rule;
            return copy;
        }
    }

    /** What one run tells: where[minute][iron], heat[minutes][iron], steps[minutes][iron]. */
    static final class Story {
        final int[][] where, heat, steps;
        final int[] coldStops, heats, finishOf;
        Story(int n) {
            where = new int[480][n];
            heat = new int[481][n];
            steps = new int[481][n];
            coldStops = new int[n];
            heats = new int[n];
            finishOf = new int[n];
        }
        int finish() {
            int latest = 0;
            for (int end : finishOf) {
                if (end < 0) return -1;
                latest = Math.max(latest, end);
            }
            return latest;
        }
    }

    static final class Worked {
        final Iron iron;
        final int index, rank;
        int heat = 20, done = 0, worked = 0, where = 0;
        Worked(Iron iron, int index, int rank) { this.iron = iron; this.index = index; this.rank = rank; }
        boolean finished() { return done == iron.steps.size(); }
        Step current() { return iron.steps.get(done); }
        boolean onAnvil() { return where >= 10; }
        boolean ready(int margin) { return !finished() && !onAnvil() && heat >= current().heat + margin; }
        int left() {
            int sum = -worked;
            for (int s = done; s < iron.steps.size(); s++) sum += iron.steps.get(s).minutes;
            return sum;
        }
    }

    static Story story(State state) {
        int n = state.irons.size();
        Story story = new Story(n);
        List<Worked> all = new ArrayList<>();
        for (int i = 0; i < n; i++) all.add(new Worked(state.irons.get(i), i, state.order.indexOf(i)));
        for (Worked w : all) {
            story.heat[0][w.index] = 20;
            story.finishOf[w.index] = w.finished() ? 0 : -1;
        }
        Comparator<Worked> byOrder = Comparator.comparingInt(w -> w.rank);
        Comparator<Worked> byRule = byOrder;
        if (state.rule == 1) byRule = Comparator.<Worked>comparingInt(w -> -w.heat).thenComparing(byOrder);
        if (state.rule == 2) byRule = Comparator.<Worked>comparingInt(w -> w.left()).thenComparing(byOrder);
        for (int minute = 0; minute < 480; minute++) {
            for (Worked w : all) {
                if (!w.onAnvil()) continue;
                if (w.finished()) {
                    w.where = 0;
                } else if (w.heat < w.current().heat) {
                    w.where = 0;
                    story.coldStops[w.index]++;
                }
            }
            while (true) {
                int anvil = free(all, 10, state.anvils);
                Worked first = all.stream().filter(w -> w.ready(state.margin)).min(byRule).orElse(null);
                if (anvil < 0 || first == null) break;
                first.where = anvil;
            }
            while (true) {
                int place = free(all, 1, state.places.size());
                Worked first = all.stream().filter(w -> !w.finished() && w.where == 0 && !w.ready(state.margin)).min(byOrder).orElse(null);
                if (place < 0 || first == null) break;
                first.where = place;
                story.heats[first.index]++;
            }
            for (Worked w : all) story.where[minute][w.index] = w.where;
            for (Worked w : all) {
                if (w.where >= 1 && w.where <= 3) {
                    int[] place = state.places.get(w.where - 1);
                    int warmer = w.heat + place[0] / w.iron.mass;
                    if (w.heat < place[1]) w.heat = warmer > place[1] ? place[1] : warmer;
                } else {
                    w.heat -= w.iron.cooling;
                    if (w.heat < 20) w.heat = 20;
                }
                if (w.onAnvil()) {
                    w.worked++;
                    if (w.worked == w.current().minutes) {
                        w.done++;
                        w.worked = 0;
                        if (w.finished()) story.finishOf[w.index] = minute + 1;
                    }
                }
                story.heat[minute + 1][w.index] = w.heat;
                story.steps[minute + 1][w.index] = w.done;
            }
        }
        return story;
    }

    private static int free(List<Worked> all, int first, int count) {
        for (int spot = first; spot < first + count; spot++) {
            boolean used = false;
            for (Worked w : all) used |= w.where == spot;
            if (!used) return spot;
        }
        return -1;
    }

    private State state = new State();
    private final Deque<State> before = new ArrayDeque<>();
    private byte[] buffer = new byte[0];
    private int errorAt = -1;
    private Story story;

    private Story told() {
        if (story == null) story = story(state);
        return story;
    }

    private int finishIf(Consumer<State> change) {
        State other = state.copy();
        change.accept(other);
        return story(other).finish();
    }

    private void change(Consumer<State> change) {
        before.addLast(state.copy());
        if (before.size() > 12) before.removeFirst();
        change.accept(state);
        story = null;
    }

    private static void index(int value, int count) {
        if (value < 0 || value >= count) throw new IndexOutOfBoundsException();
    }

    private Iron iron(int iron) {
        index(iron, state.irons.size());
        return state.irons.get(iron);
    }

    private int[] place(int place) {
        index(place, state.places.size());
        return state.places.get(place);
    }

    public int feed(int a, int b, int c, int d, int e) {
        if (buffer.length + 20 > 900) return -3;
        int at = buffer.length;
        buffer = Arrays.copyOf(buffer, at + 20);
        for (int word : new int[] {a, b, c, d, e}) {
            buffer[at++] = (byte) (word >>> 24);
            buffer[at++] = (byte) (word >>> 16);
            buffer[at++] = (byte) (word >>> 8);
            buffer[at++] = (byte) word;
        }
        return buffer.length;
    }

    static final class TextError extends RuntimeException {
        private static final long serialVersionUID = 1L;
        final int code, at;
        TextError(int code, int at) { super(null, null, false, false); this.code = code; this.at = at; }
    }

    static final class Text {
        static final Pattern TOKEN = Pattern.compile("[a-z]+|[0-9]+|[^ \n]", Pattern.DOTALL);
        static final Set<String> WORDS = Set.of("iron", "step", "place", "set", "anvils", "margin", "rule");
        final Matcher matcher;
        final int length;
        String token = "";
        int at;
        Text(String text) { matcher = TOKEN.matcher(text); length = text.length(); }
        boolean next() {
            boolean found = matcher.find();
            token = found ? matcher.group() : "";
            at = found ? matcher.start() : length;
            return found;
        }
        void fail(boolean bad, int code) { if (bad) throw new TextError(code, at); }
        String name() {
            next();
            fail(!token.matches("[a-z]{1,6}") || WORDS.contains(token), -11);
            return token;
        }
        int number(int least, int most) {
            next();
            fail(!token.matches("[0-9]+"), -11);
            BigInteger value = new BigInteger(token);
            fail(value.compareTo(BigInteger.valueOf(least)) < 0 || value.compareTo(BigInteger.valueOf(most)) > 0, -12);
            return value.intValue();
        }
    }

    static int parse(String source, State state) {
        Text text = new Text(source);
        Map<String, Iron> named = new LinkedHashMap<>();
        Set<String> given = new HashSet<>();
        int statements = 0;
        while (text.next()) {
            if (text.token.equals("iron")) {
                text.fail(named.size() == 6, -15);
                String name = text.name();
                text.fail(named.containsKey(name), -14);
                named.put(name, new Iron(name, text.number(1, 9), text.number(1, 99)));
            } else if (text.token.equals("step")) {
                Iron iron = named.get(text.name());
                text.fail(iron == null, -13);
                text.fail(iron.steps.size() == 5, -15);
                iron.steps.add(new Step(text.number(100, 1400), text.number(1, 30)));
            } else if (text.token.equals("place")) {
                text.fail(state.places.size() == 3, -15);
                state.places.add(new int[] {text.number(1, 2000), text.number(100, 1500)});
            } else if (text.token.equals("set")) {
                text.next();
                String setting = text.token;
                text.fail(!List.of("anvils", "margin", "rule").contains(setting), -11);
                text.fail(!given.add(setting), -14);
                if (setting.equals("anvils")) state.anvils = text.number(1, 3);
                if (setting.equals("margin")) state.margin = text.number(0, 500);
                if (setting.equals("rule")) state.rule = text.number(0, 2);
            } else {
                text.fail(true, -11);
            }
            text.next();
            text.fail(!text.token.equals(";"), -11);
            statements++;
        }
        state.irons.addAll(named.values());
        for (int i = 0; i < named.size(); i++) state.order.add(i);
        return statements;
    }

    public int load(int length) {
        if (length < 0 || length > buffer.length) return -2;
        String text = new String(buffer, 0, length, java.nio.charset.StandardCharsets.ISO_8859_1);
        buffer = new byte[0];
        State loaded = new State();
        try {
            int statements = parse(text, loaded);
            errorAt = -1;
            state = loaded;
            before.clear();
            story = null;
            return statements;
        } catch (TextError error) {
            errorAt = error.at;
            return error.code;
        }
    }

    public int errorPosition() { return errorAt; }
    public int ironCount() { return state.irons.size(); }
    public int placeCount() { return state.places.size(); }
    public int undoCount() { return before.size(); }

    public int ironNamed(int letters) {
        for (int i = 0; i < state.irons.size(); i++) {
            int code = 0;
            String name = state.irons.get(i).name;
            for (int k = 0; k < 6; k++) code = code * 32 + (k < name.length() ? name.charAt(k) - 'a' + 1 : 0);
            if (code == letters) return i;
        }
        return -1;
    }

    public int mass(int iron) { return iron(iron).mass; }
    public int cooling(int iron) { return iron(iron).cooling; }
    public int stepCount(int iron) { return iron(iron).steps.size(); }
    public int stepHeat(int iron, int step) {
        index(step, iron(iron).steps.size());
        return iron(iron).steps.get(step).heat;
    }
    public int stepMinutes(int iron, int step) {
        index(step, iron(iron).steps.size());
        return iron(iron).steps.get(step).minutes;
    }
    public int placeRate(int place) { return place(place)[0]; }
    public int placeLimit(int place) { return place(place)[1]; }
    public int getSetting(int setting) {
        return setting == 0 ? state.anvils : setting == 1 ? state.margin : setting == 2 ? state.rule : -2;
    }
    public int ironAt(int position) { iron(position); return state.order.get(position); }
    public int positionOf(int iron) { iron(iron); return state.order.indexOf(iron); }
    public int finish() { return told().finish(); }
    public int finishOf(int iron) { iron(iron); return told().finishOf[iron]; }
    public int heatAfter(int iron, int minute) {
        iron(iron);
        return minute < 0 || minute > 480 ? -2 : told().heat[minute][iron];
    }
    public int whereIn(int iron, int minute) {
        iron(iron);
        return minute < 0 || minute > 479 ? -2 : told().where[minute][iron];
    }
    public int stepsAfter(int iron, int minute) {
        iron(iron);
        return minute < 0 || minute > 480 ? -2 : told().steps[minute][iron];
    }
    public int coldStops(int iron) { iron(iron); return told().coldStops[iron]; }
    public int heats(int iron) { iron(iron); return told().heats[iron]; }
    public int fireMinutes(int iron) {
        iron(iron);
        return (int) Arrays.stream(told().where).filter(row -> row[iron] >= 1 && row[iron] <= 3).count();
    }
    private int spotMinutes(int spot) {
        return (int) Arrays.stream(told().where).filter(row -> Arrays.stream(row).anyMatch(w -> w == spot)).count();
    }
    public int anvilMinutes(int anvil) { index(anvil, state.anvils); return spotMinutes(10 + anvil); }
    public int placeMinutes(int place) { place(place); return spotMinutes(1 + place); }
    public int hottest(int iron) {
        iron(iron);
        return Arrays.stream(told().heat).mapToInt(row -> row[iron]).max().getAsInt();
    }
    public int lastIron() {
        int end = finish();
        for (int i = 0; end >= 0 && i < state.irons.size(); i++) if (told().finishOf[i] == end) return i;
        return -1;
    }

    private List<List<Integer>> orders(List<Integer> chosen) {
        List<List<Integer>> found = new ArrayList<>();
        if (chosen.size() == state.irons.size()) found.add(chosen);
        for (int i = 0; i < state.irons.size(); i++) {
            if (chosen.contains(i)) continue;
            List<Integer> longer = new ArrayList<>(chosen);
            longer.add(i);
            found.addAll(orders(longer));
        }
        return found;
    }

    private List<Integer> bestOrder;
    private int bestEnd, bestTies;

    private void seekBest() {
        bestOrder = null;
        bestEnd = -1;
        bestTies = 0;
        for (List<Integer> order : orders(List.of())) {
            int end = finishIf(s -> { s.order.clear(); s.order.addAll(order); });
            if (end < 0) continue;
            if (bestEnd < 0 || end < bestEnd) {
                bestEnd = end;
                bestOrder = order;
                bestTies = 0;
            }
            if (end == bestEnd) bestTies++;
        }
    }

    public int bestFinish() { seekBest(); return bestEnd; }
    public int bestIronAt(int position) {
        iron(position);
        seekBest();
        return bestOrder == null ? -1 : bestOrder.get(position);
    }
    public int bestOrders() { seekBest(); return bestTies; }

    private static void exchange(State s, int one, int other) {
        Integer kept = s.order.get(one);
        s.order.set(one, s.order.get(other));
        s.order.set(other, kept);
    }

    public int finishWithSwap(int one, int other) {
        iron(one);
        iron(other);
        return finishIf(s -> exchange(s, one, other));
    }
    public int finishWithMargin(int margin) {
        return margin < 0 || margin > 500 ? -2 : finishIf(s -> s.margin = margin);
    }
    public int bestMargin() {
        int best = -1, bestFinish = 1000;
        for (int margin = 0; margin <= 500; margin++) {
            if (margin % 10 != 0) continue;
            int end = finishWithMargin(margin);
            if (end >= 0 && end < bestFinish) { best = margin; bestFinish = end; }
        }
        return best;
    }
    public int finishWithoutPlace(int place) { place(place); return finishIf(s -> s.places.remove(place)); }

    /** Really takes irons away, so that the others get new indices. */
    private static void takeAway(State s, int iron) {
        s.irons.remove(iron);
        s.order.remove(Integer.valueOf(iron));
        s.order.replaceAll(other -> other > iron ? other - 1 : other);
    }
    public int finishWithoutIron(int iron) { iron(iron); return finishIf(s -> takeAway(s, iron)); }
    public int finishAlone(int iron) {
        iron(iron);
        return finishIf(s -> { for (int i = state.irons.size() - 1; i >= 0; i--) if (i != iron) takeAway(s, i); });
    }
    public int orderCode() {
        int code = 0;
        for (int p = state.order.size() - 1; p >= 0; p--) code = code * 8 + state.order.get(p) + 1;
        return code;
    }

    public int setSetting(int setting, int value) {
        int[] least = {1, 0, 0}, most = {3, 500, 2};
        if (setting < 0 || setting > 2 || value < least[setting] || value > most[setting]) return -2;
        int previous = getSetting(setting);
        change(s -> {
            if (setting == 0) s.anvils = value;
            if (setting == 1) s.margin = value;
            if (setting == 2) s.rule = value;
        });
        return previous;
    }
    public boolean swap(int one, int other) {
        int n = state.irons.size();
        if (one < 0 || one >= n || other < 0 || other >= n) return false;
        change(s -> exchange(s, one, other));
        return true;
    }
    public int useBestOrder() {
        seekBest();
        if (bestOrder == null) return -1;
        change(s -> { s.order.clear(); s.order.addAll(bestOrder); });
        return bestEnd;
    }
    public boolean setPlace(int place, int rate, int limit) {
        if (place < 0 || place >= state.places.size() || rate < 1 || rate > 2000 || limit < 100 || limit > 1500) return false;
        change(s -> s.places.set(place, new int[] {rate, limit}));
        return true;
    }
    public int addStep(int iron, int heat, int minutes) {
        if (iron < 0 || iron >= state.irons.size()) return -1;
        if (heat < 100 || heat > 1400 || minutes < 1 || minutes > 30) return -2;
        if (iron(iron).steps.size() == 5) return -3;
        change(s -> s.irons.get(iron).steps.add(new Step(heat, minutes)));
        return iron(iron).steps.size();
    }
    public int removeStep(int iron) {
        if (iron < 0 || iron >= state.irons.size() || iron(iron).steps.isEmpty()) return -1;
        change(s -> s.irons.get(iron).steps.remove(s.irons.get(iron).steps.size() - 1));
        return iron(iron).steps.size();
    }
    public int undo() {
        if (before.isEmpty()) return -1;
        state = before.removeLast();
        story = null;
        return before.size();
    }

    public int rackMinutes(int iron) {
        iron(iron);
        int end = told().finishOf[iron];
        int sum = 0;
        for (int m = 0; m < (end < 0 ? 480 : end); m++) if (told().where[m][iron] == 0) sum++;
        return sum;
    }
    public int firstWork(int iron) {
        iron(iron);
        for (int m = 0; m < 480; m++) if (told().where[m][iron] >= 10) return m;
        return -1;
    }
    private int ironOn(int spot, int minute) {
        if (minute < 0 || minute > 479) return -2;
        for (int i = 0; i < state.irons.size(); i++) if (told().where[minute][i] == spot) return i;
        return -1;
    }
    public int ironInPlace(int place, int minute) { place(place); return ironOn(1 + place, minute); }
    public int ironOnAnvil(int anvil, int minute) { index(anvil, state.anvils); return ironOn(10 + anvil, minute); }
    public int finishedBy(int minute) {
        if (minute < 0 || minute > 480) return -2;
        return (int) Arrays.stream(told().finishOf).filter(end -> end >= 0 && end <= minute).count();
    }
    public int idleMinutes() {
        int sum = 0;
        for (int m = 0; m < 480; m++) {
            boolean free = false;
            for (int a = 0; a < state.anvils; a++) free |= ironOn(10 + a, m) == -1;
            if (free && finishedBy(m) < state.irons.size()) sum++;
        }
        return sum;
    }
    public int finishWithAnvils(int anvils) {
        return anvils < 1 || anvils > 3 ? -2 : finishIf(s -> s.anvils = anvils);
    }
    public int bestRule() {
        int best = -1, bestFinish = 1000;
        for (int rule = 0; rule <= 2; rule++) {
            int tried = rule;
            int end = finishIf(s -> s.rule = tried);
            if (end >= 0 && end < bestFinish) { best = rule; bestFinish = end; }
        }
        return best;
    }
    public int finishWithRate(int place, int rate) {
        place(place);
        return rate < 1 || rate > 2000 ? -2 : finishIf(s -> s.places.get(place)[0] = rate);
    }
    public int leastRate(int place) {
        place(place);
        int now = finish();
        for (int rate = 20; now >= 0 && rate <= 2000; rate += 20) {
            int end = finishWithRate(place, rate);
            if (end >= 0 && end <= now) return rate;
        }
        return -1;
    }
    public int criticalIrons() {
        int now = finish(), bits = 0;
        for (int i = 0; now >= 0 && i < state.irons.size(); i++) {
            int end = finishWithoutIron(i);
            if (end >= 0 && end < now) bits += 1 << i;
        }
        return bits;
    }
}

import java.util.function.IntUnaryOperator;
import java.util.function.ToIntBiFunction;

/** The promises 1 to 58 of the document, sentence by sentence, with answers worked out by hand. */
public final class SentencesTest extends Sentences {
    private static final String NO_IRON = "Throws `IndexOutOfBoundsException` if iron is not a valid index";
    private static final String NO_IRON_FIRST = NO_IRON + " (checked first)";
    private static final String NO_PLACE = "Throws `IndexOutOfBoundsException` if place is not a valid index";
    private static final String NO_PLACE_FIRST = NO_PLACE + " (checked first)";
    private static final String NO_STEP = "Throws `IndexOutOfBoundsException` if iron or step is not a valid index";
    private static final String NO_ANVIL = "Throws `IndexOutOfBoundsException` if anvil is not from 0 to ANVILS minus 1";
    private static final String NO_POSITION = "Throws `IndexOutOfBoundsException` if position is not from 0 to the number of irons minus 1";

    private static final String SIX_IRONS = "iron a 1 1;iron b 1 1;iron c 1 1;iron d 1 1;iron e 1 1;iron f 1 1;";
    private static final String THREE_PLACES = "place 500 500;place 500 500;place 500 500;";
    /** One place: a is heated in minutes 0 to 2 and worked in 3 and 4, b is heated in 3 to 5 and worked in 6. */
    private static final String PAIR = "iron a 1 10;iron b 2 20;step a 500 2;step b 300 1;place 200 1000;set margin 0;";
    /** Heated by one minute each in one place, then worked for 10, 11 and 12 minutes on an anvil each. */
    private static final String ROW = "iron a 1 1;iron b 1 1;iron c 1 1;step a 100 10;step b 100 11;step c 100 12;place 100 500;set margin 0;set anvils 3;";
    /** Ready together in minute 1, with 9, 5 and 7 minutes of work. */
    private static final String TRIO = "iron a 1 1;iron b 1 1;iron c 1 1;step a 100 9;step b 100 5;step c 100 7;" + THREE_PLACES + "set margin 0;";
    /** Place 0 is too cold for a, which gets into it if it comes first. */
    private static final String TRAP = "iron a 1 1;iron b 1 1;step a 1000 1;step b 200 1;place 500 300;place 500 1500;set margin 0;";
    /** Never hot enough. */
    private static final String COLD = "iron a 1 1;iron b 1 1;step a 500 1;place 100 400;";
    /** Stopped after each minute of work but the last: 507 and 408 in turn. */
    private static final String STOPS = "iron a 1 99;step a 500 5;place 2000 507;set margin 0;";
    /** Heated to the end of minute 478 and worked in 479. */
    private static final String LATE = "iron a 1 1;step a 499 1;place 1 1500;set margin 0;";
    /** If b is worked in minute 1, it is heated again while a is worked: 13 minutes instead of 14. */
    private static final String RIVALS = "iron a 1 1;iron b 1 99;step a 200 10;step b 200 1;step b 600 1;place 300 1000;place 300 500;set margin 0;";

    public static void main(String[] args) {
        newObject();
        feed();
        load();
        errorPosition();
        counts();
        ironNamed();
        massAndCooling();
        steps();
        places();
        getSetting();
        order();
        finish();
        heatAfter();
        whereIn();
        stepsAfter();
        timesOfIrons();
        minutesOfSpots();
        hottest();
        lastIron();
        bestOrder();
        finishWithSwap();
        margins();
        without();
        orderCode();
        setSetting();
        swap();
        useBestOrder();
        setPlace();
        addStep();
        removeStep();
        undo();
        rackMinutes();
        firstWork();
        ironInPlace();
        ironOnAnvil();
        finishedBy();
        idleMinutes();
        finishWithAnvils();
        bestRule();
        finishWithRate();
        leastRate();
        criticalIrons();
        end("SentencesTest", "Promise .*");
    }

    /** Refuses wrong irons (or positions) of forges with two, six and no irons. */
    private static void refusesIrons(String call, ToIntBiFunction<ForgeScheduler, Integer> method) {
        ForgeScheduler pair = ForgeText.forge(PAIR);
        ForgeScheduler six = ForgeText.forge(SIX_IRONS);
        ForgeScheduler none = ForgeText.forge(THREE_PLACES);
        refuses(call, 2, i -> method.applyAsInt(pair, i));
        refuses(call, 6, i -> method.applyAsInt(six, i));
        refuses(call, 0, i -> method.applyAsInt(none, i));
    }

    /** Refuses wrong fire places of forges with one, three and no places. */
    private static void refusesPlaces(String call, ToIntBiFunction<ForgeScheduler, Integer> method) {
        ForgeScheduler one = ForgeText.forge(PAIR);
        ForgeScheduler three = ForgeText.forge(THREE_PLACES);
        ForgeScheduler none = ForgeText.forge(SIX_IRONS);
        refuses(call, 1, p -> method.applyAsInt(one, p));
        refuses(call, 3, p -> method.applyAsInt(three, p));
        refuses(call, 0, p -> method.applyAsInt(none, p));
    }

    private static void refusesAnvils(String call, ToIntBiFunction<ForgeScheduler, Integer> method) {
        ForgeScheduler x = ForgeText.forge(TRIO);
        for (int anvils : new int[] {3, 1, 2}) {
            x.setSetting(ANVILS, anvils);
            refuses(call, anvils, a -> method.applyAsInt(x, a));
        }
    }

    private static void badValues(String call, int least, int most, IntUnaryOperator method) {
        for (int bad : new int[] {least - 1, most + 1, LOW, HIGH}) due(call + "(" + bad + ")", method.applyAsInt(bad), BAD_VALUE);
    }

    private static void newObject() {
        part("Promise 1: A new object");
        says("Creates a forge without irons and fire places, with initial settings, an empty input buffer and no changes to undo.");
        ForgeScheduler x = new ForgeScheduler();
        due("ironCount()", x.ironCount(), 0);
        due("placeCount()", x.placeCount(), 0);
        row("getSetting", -1, x::getSetting, BAD_VALUE, 1, 50, 0, BAD_VALUE);
        due("load(1) of an empty buffer", x.load(1), BAD_VALUE);
        due("undoCount()", x.undoCount(), 0);
        due("undo()", x.undo(), NOT_FOUND);
        due("the first feed", x.feed(0, 0, 0, 0, 0), 20);
        ForgeScheduler y = new ForgeScheduler();
        due("another object has its own buffer", y.load(20), BAD_VALUE);
    }

    private static void feed() {
        part("Promise 2: feed");
        says("Appends 20 bytes to the input buffer: the four bytes of each parameter, most significant byte first.");
        int blank = 0x20202020;
        for (int at = 0; at < 20; at++) {
            int[] words = {blank, blank, blank, blank, blank};
            words[at / 4] = blank ^ 1 << 24 - at % 4 * 8;
            ForgeScheduler x = new ForgeScheduler();
            due("feed", x.feed(words[0], words[1], words[2], words[3], words[4]), 20);
            due("load(20) with '!' at " + at, x.load(20), SYNTAX);
            due("errorPosition()", x.errorPosition(), at);
        }
        ForgeScheduler x = new ForgeScheduler();
        x.feed(blank, blank, blank, blank, blank);
        x.feed(0x706c6163, 0x65203132, 0x20333435, 0x3bffffff, -1);
        due("bytes of the first feed, then those of the second", x.load(33), 1);
        due("placeRate(0)", x.placeRate(0), 12);
        due("placeLimit(0)", x.placeLimit(0), 345);
        x.feed(0x80000000, 0, 0, 0, 0);
        due("a byte of 128", x.load(1), SYNTAX);

        String[] lines = {"- `a`: first four bytes", "- `b`: next four bytes", "- `c`: next four bytes", "- `d`: next four bytes", "- `e`: last four bytes"};
        for (int word = 0; word < 5; word++) {
            says(lines[word]);
            int[] words = {blank, blank, blank, blank, blank};
            words[word] = 0x21222324;
            ForgeScheduler y = new ForgeScheduler();
            y.feed(words[0], words[1], words[2], words[3], words[4]);
            y.load(20);
            due("errorPosition()", y.errorPosition(), 4 * word);
        }

        says("Returns the new number of bytes in the buffer; FULL if the buffer would hold more than 900 bytes (nothing is appended then).");
        ForgeScheduler z = new ForgeScheduler();
        for (int n = 1; n <= 44; n++) due("feed " + n, z.feed(blank, blank, blank, blank, blank), 20 * n);
        due("feed 45", z.feed(blank, blank, 0x706c6163, 0x65203120, 0x3130303b), 900);
        due("feed 46", z.feed(0x21212121, 0x21212121, 0x21212121, 0x21212121, 0x21212121), FULL);
        due("feed 47", z.feed(blank, blank, blank, blank, blank), FULL);
        due("load(901)", z.load(901), BAD_VALUE);
        due("load(920)", z.load(920), BAD_VALUE);
        due("feed 48", z.feed(blank, blank, blank, blank, blank), FULL);
        due("load(900), with a statement at the end", z.load(900), 1);
        due("placeLimit(0)", z.placeLimit(0), 100);
        due("feed into the empty buffer", z.feed(blank, blank, blank, blank, blank), 20);
    }

    private static void load() {
        part("Promise 3: load");
        says("Replaces the forge by the one described by the first length bytes of the input buffer (see TEXT FORMAT) and empties the buffer.");
        ForgeScheduler x = ForgeText.forge(PAIR + "set anvils 3;set rule 2;");
        x.swap(0, 1);
        ForgeText.feed(x, "iron c 3 4;place 9 999;!!!!");
        due("load(11): the iron alone", x.load(11), 1);
        due("state", state(x), "iron 3 4 at 0 ends 0; set 1; set 50; set 0; order 1 best 0 of 1 changes 0");
        due("ironNamed(a)", x.ironNamed(ForgeText.letters("a")), NOT_FOUND);
        due("ironNamed(c)", x.ironNamed(ForgeText.letters("c")), 0);
        due("load(1): the buffer is empty", x.load(1), BAD_VALUE);
        due("feed into the empty buffer", x.feed(0, 0, 0, 0, 0), 20);
        due("load(0): the empty text", x.load(0), 0);
        due("state", state(x), "set 1; set 50; set 0; order 0 best 0 of 1 changes 0");
        due("load(1): the buffer is empty", x.load(1), BAD_VALUE);

        says("After a successful load nothing can be undone.");
        ForgeScheduler y = ForgeText.forge(PAIR);
        for (int n = 0; n < 15; n++) y.swap(0, 1);
        due("load(0)", y.load(0), 0);
        due("undoCount()", y.undoCount(), 0);
        due("undo()", y.undo(), NOT_FOUND);
        due("ironCount()", y.ironCount(), 0);
        y.setSetting(RULE, 1);
        due("a change of the new forge can be undone", y.undo(), 0);
        due("getSetting(RULE)", y.getSetting(RULE), 0);
        due("undo()", y.undo(), NOT_FOUND);

        says("If the text has an error, nothing but the buffer changes: it is emptied all the same.");
        String[] wrong = {"x", "iron c 1 0;", "step a 100 1;", "iron c 1 1;iron c 1 1;", THREE_PLACES + "place", "iron c 1 1;step c 100 1;place 1 100;set rule 1;"};
        int[] codes = {SYNTAX, RANGE, NAME, DUPLICATE, COUNT, SYNTAX};
        for (int i = 0; i < wrong.length; i++) {
            ForgeScheduler z = ForgeText.forge(PAIR);
            z.swap(0, 1);
            String before = state(z);
            ForgeText.feed(z, wrong[i]);
            due("load of " + wrong[i], z.load(wrong[i].length() - (i == 5 ? 1 : 0)), codes[i]);
            due("state", state(z), before);
            due("ironNamed(c)", z.ironNamed(ForgeText.letters("c")), NOT_FOUND);
            due("load(1): the buffer is empty", z.load(1), BAD_VALUE);
            due("undo()", z.undo(), 0);
            due("orderCode()", z.orderCode(), 17);
        }

        says("- `length`: number of bytes to read, from 0 to the number of bytes in the buffer");
        ForgeScheduler w = new ForgeScheduler();
        ForgeText.feed(w, "place 1 100;place 2 200;");
        badValues("load", 0, 40, w::load);
        due("load(40), with the blanks behind the text", w.load(40), 2);
        badValues("load of the empty buffer", 0, 0, w::load);
        due("load(0) of the empty buffer", w.load(0), 0);

        says("Returns the number of statements; BAD_VALUE if length is out of range (the buffer is unchanged then); "
            + "SYNTAX_ERROR, RANGE_ERROR, NAME_ERROR, DUPLICATE_ERROR or COUNT_ERROR.");
        StringBuilder most = new StringBuilder(SIX_IRONS + THREE_PLACES + "set anvils 3;set margin 9;set rule 2;");
        for (char name = 'a'; name <= 'f'; name++) most.append(("step " + name + " 100 1;").repeat(5));
        loads(most.toString(), 42, NOT_FOUND);
        ForgeScheduler v = ForgeText.forge(PAIR);
        String before = state(v);
        ForgeText.feed(v, "place 1 100;");
        badValues("load", 0, 20, v::load);
        due("state", state(v), before);
        due("a feed behind what is there", v.feed(0x706c6163, 0x65203220, 0x3230303b, 0x20202020, 0x20202020), 40);
        due("load(40)", v.load(40), 2);
        for (int i = 0; i < wrong.length - 1; i++) due("load of " + wrong[i], ForgeText.load(new ForgeScheduler(), wrong[i]), codes[i]);
    }

    private static void errorPosition() {
        part("Promise 4: errorPosition");
        says("Returns the position of the error of the latest load that did not return BAD_VALUE.");
        ForgeScheduler x = new ForgeScheduler();
        ForgeText.load(x, "iron a 1 1;!");
        due("errorPosition()", x.errorPosition(), 11);
        due("load(1)", x.load(1), BAD_VALUE);
        due("load(-1)", x.load(-1), BAD_VALUE);
        due("errorPosition() after BAD_VALUE", x.errorPosition(), 11);
        x.setSetting(RULE, 1);
        x.undo();
        due("errorPosition() after a change and undo", x.errorPosition(), 11);
        ForgeText.load(x, "iron a 11 1;");
        due("errorPosition() of the next error", x.errorPosition(), 7);
        ForgeText.feed(x, "place 1 100;");
        due("errorPosition() after feed", x.errorPosition(), 7);
        due("load(12)", x.load(12), 1);
        due("errorPosition() after success", x.errorPosition(), NOT_FOUND);
        due("load(1)", x.load(1), BAD_VALUE);
        due("errorPosition() after BAD_VALUE", x.errorPosition(), NOT_FOUND);

        says("Returns the position in bytes from the start of the text; NOT_FOUND if that load had no error or there was none.");
        due("errorPosition() of a new object", new ForgeScheduler().errorPosition(), NOT_FOUND);
        loads("!", SYNTAX, 0);
        loads("\n \n!", SYNTAX, 3);
        loads(" ".repeat(899) + "!", SYNTAX, 899);
        loads(" ".repeat(896) + "iron", SYNTAX, 900);
        loads("", 0, NOT_FOUND);
        ForgeScheduler y = new ForgeScheduler();
        ForgeText.load(y, "!");
        due("load(0)", y.load(0), 0);
        due("errorPosition() after the empty text", y.errorPosition(), NOT_FOUND);
    }

    private static void counts() {
        part("Promise 5: ironCount");
        says("Returns the number of irons.");
        due("two", ForgeText.forge(PAIR).ironCount(), 2);
        due("none, with places", ForgeText.forge(THREE_PLACES).ironCount(), 0);
        says("Returns 0 to 6.");
        for (int irons = 0; irons <= 6; irons++) due(irons + " irons", ForgeText.forge(SIX_IRONS.substring(0, 11 * irons)).ironCount(), irons);
        part("Promise 6: placeCount");
        says("Returns the number of fire places.");
        due("one", ForgeText.forge(PAIR).placeCount(), 1);
        due("none, with irons", ForgeText.forge(SIX_IRONS).placeCount(), 0);
        says("Returns 0 to 3.");
        for (int places = 0; places <= 3; places++) due(places + " places", ForgeText.forge(THREE_PLACES.substring(0, 14 * places)).placeCount(), places);
        part("Promise 7: undoCount");
        says("Returns the number of changes that can be undone.");
        ForgeScheduler x = ForgeText.forge(PAIR);
        due("none", x.undoCount(), 0);
        x.swap(0, 0);
        x.swap(1, 1);
        due("two", x.undoCount(), 2);
        x.undo();
        due("one", x.undoCount(), 1);
        x.undo();
        x.undo();
        due("none again", x.undoCount(), 0);
        says("Returns 0 to 12.");
        for (int n = 1; n <= 30; n++) {
            x.swap(0, 1);
            due("after " + n, x.undoCount(), Math.min(n, 12));
        }
        for (int n = 11; n >= 0; n--) {
            x.undo();
            due("after undo", x.undoCount(), n);
        }
    }

    private static void ironNamed() {
        part("Promise 8: ironNamed");
        ForgeScheduler x = ForgeText.forge("iron a 1 1;iron ab 1 1;iron abcdef 1 1;iron zzzzzz 1 1;iron z 1 1;");
        says("Returns the iron with a name.");
        due("ironNamed(a)", x.ironNamed(ForgeText.letters("a")), 0);
        due("ironNamed(ab)", x.ironNamed(ForgeText.letters("ab")), 1);
        x.swap(0, 4);
        due("ironNamed(a) in another order", x.ironNamed(ForgeText.letters("a")), 0);
        says("- `letters`: the name as six groups of 5 bits, the first letter in the highest group; a is 1, z is 26; unused groups at the end are 0");
        due("a", x.ironNamed(1 << 25), 0);
        due("ab", x.ironNamed(1 << 25 | 2 << 20), 1);
        due("abcdef", x.ironNamed(1 << 25 | 2 << 20 | 3 << 15 | 4 << 10 | 5 << 5 | 6), 2);
        due("zzzzzz", x.ironNamed(26 << 25 | 26 << 20 | 26 << 15 | 26 << 10 | 26 << 5 | 26), 3);
        due("z", x.ironNamed(26 << 25), 4);
        says("Returns the index of the iron; NOT_FOUND if there is none with that name.");
        int[] others = {0, 1, -1, LOW, HIGH, 1 << 20, 2 << 25, 27 << 25, 1 << 25 | 2, 1 << 25 | 2 << 15, 1 << 25 | 2 << 20 | 1, 1 << 25 | 1 << 30,
            1 << 25 | 1 << 31, 1 << 25 | 2 << 20 | 3 << 15 | 4 << 10 | 5 << 5, 1 << 25 | 2 << 20 | 3 << 15 | 4 << 10 | 5 << 5 | 7};
        for (int letters : others) due("ironNamed(" + letters + ")", x.ironNamed(letters), NOT_FOUND);
        due("ironNamed(0) without irons", new ForgeScheduler().ironNamed(0), NOT_FOUND);
        ForgeText.load(x, "iron b 1 1;");
        due("ironNamed(ab) of the forge before", x.ironNamed(ForgeText.letters("ab")), NOT_FOUND);
        due("ironNamed(b)", x.ironNamed(ForgeText.letters("b")), 0);
    }

    private static void massAndCooling() {
        ForgeScheduler x = ForgeText.forge("iron a 1 99;iron b 9 1;iron c 5 50;");
        part("Promise 9: mass");
        says("Returns the mass of an iron.");
        due("mass(2)", x.mass(2), 5);
        says("Returns 1 to 9.");
        row("mass", 0, x::mass, 1, 9);
        says(NO_IRON);
        refusesIrons("mass", ForgeScheduler::mass);
        part("Promise 10: cooling");
        says("Returns by how many degrees an iron cools in a minute.");
        due("cooling(2)", x.cooling(2), 50);
        says("Returns 1 to 99.");
        row("cooling", 0, x::cooling, 99, 1);
        says(NO_IRON);
        refusesIrons("cooling", ForgeScheduler::cooling);
    }

    private static void steps() {
        ForgeScheduler x = ForgeText.forge("iron a 1 1;iron b 1 1;iron c 1 1;" + "step a 100 30;".repeat(5) + "step c 1400 1;step c 700 15;");
        part("Promise 11: stepCount");
        says("Returns the number of steps of an iron.");
        due("stepCount(2)", x.stepCount(2), 2);
        says("Returns 0 to 5.");
        row("stepCount", 0, x::stepCount, 5, 0);
        says(NO_IRON);
        refusesIrons("stepCount", ForgeScheduler::stepCount);
        part("Promise 12: stepHeat");
        says("Returns the lowest temperature of a step.");
        row("stepHeat(2, step)", 0, s -> x.stepHeat(2, s), 1400, 700);
        row("stepHeat(0, step)", 0, s -> x.stepHeat(0, s), 100, 100, 100, 100, 100);
        says(NO_STEP);
        refusesSteps(x, "stepHeat", x::stepHeat);
        part("Promise 13: stepMinutes");
        says("Returns the number of minutes of work of a step.");
        row("stepMinutes(2, step)", 0, s -> x.stepMinutes(2, s), 1, 15);
        row("stepMinutes(0, step)", 0, s -> x.stepMinutes(0, s), 30, 30, 30, 30, 30);
        says(NO_STEP);
        refusesSteps(x, "stepMinutes", x::stepMinutes);
    }

    private static void refusesSteps(ForgeScheduler x, String call, java.util.function.IntBinaryOperator method) {
        refuses(call + "(iron, 0)", 3, i -> method.applyAsInt(i, 0));
        refuses(call + "(0, step)", 5, s -> method.applyAsInt(0, s));
        refuses(call + "(1, step)", 0, s -> method.applyAsInt(1, s));
        refuses(call + "(2, step)", 2, s -> method.applyAsInt(2, s));
        throwsIndex(call + "(1, 0) of no steps", () -> method.applyAsInt(1, 0));
        x.removeStep(2);
        throwsIndex(call + "(2, 1) of a step that was removed", () -> method.applyAsInt(2, 1));
        x.undo();
    }

    private static void places() {
        ForgeScheduler x = ForgeText.forge("place 1 1500;place 2000 100;place 77 888;");
        part("Promise 14: placeRate");
        says("Returns the rate of a fire place.");
        due("placeRate(2)", x.placeRate(2), 77);
        says("Returns 1 to 2000.");
        row("placeRate", 0, x::placeRate, 1, 2000);
        says(NO_PLACE);
        refusesPlaces("placeRate", ForgeScheduler::placeRate);
        part("Promise 15: placeLimit");
        says("Returns the limit of a fire place.");
        due("placeLimit(2)", x.placeLimit(2), 888);
        says("Returns 100 to 1500.");
        row("placeLimit", 0, x::placeLimit, 1500, 100);
        says(NO_PLACE);
        refusesPlaces("placeLimit", ForgeScheduler::placeLimit);
    }

    private static void getSetting() {
        part("Promise 16: getSetting");
        ForgeScheduler x = ForgeText.forge("set anvils 2;set margin 123;set rule 1;");
        says("Returns the value of a setting.");
        due("getSetting(ANVILS)", x.getSetting(ForgeScheduler.ANVILS), 2);
        due("getSetting(MARGIN)", x.getSetting(ForgeScheduler.MARGIN), 123);
        due("getSetting(RULE)", x.getSetting(ForgeScheduler.RULE), 1);
        says("- `setting`: ANVILS, MARGIN or RULE");
        row("getSetting", -1, x::getSetting, BAD_VALUE, 2, 123, 1, BAD_VALUE);
        says("Returns the value; BAD_VALUE if setting is none of these.");
        badValues("getSetting", 0, 2, x::getSetting);
    }

    private static void order() {
        ForgeScheduler x = ForgeText.forge(SIX_IRONS);
        x.swap(0, 3);
        x.swap(3, 5);
        part("Promise 17: ironAt");
        says("Returns the iron at a position of the order.");
        row("ironAt", 0, x::ironAt, 3, 1, 2, 5, 4, 0);
        says("- `position`: 0 for the iron that comes first");
        due("ironAt(0)", x.ironAt(0), 3);
        due("whereIn: the first one gets the fire", firstInFire(), 1);
        says(NO_POSITION);
        refusesIrons("ironAt", ForgeScheduler::ironAt);
        part("Promise 18: positionOf");
        says("Returns the position of an iron in the order.");
        row("positionOf", 0, x::positionOf, 5, 1, 2, 0, 4, 3);
        says("Returns the position, from 0.");
        due("positionOf(3)", x.positionOf(3), 0);
        says(NO_IRON);
        refusesIrons("positionOf", ForgeScheduler::positionOf);
    }

    private static int firstInFire() {
        ForgeScheduler x = ForgeText.forge(PAIR);
        x.swap(0, 1);
        return x.whereIn(x.ironAt(0), 0);
    }

    private static void finish() {
        part("Promise 19: finish");
        says("Returns the minute at which all irons are finished in the run.");
        due("of PAIR: 5 and 7", ForgeText.forge(PAIR).finish(), 7);
        due("the first iron is the last to be finished", ForgeText.forge(TRIO + "set anvils 3;").finish(), 10);
        due("the whole run", ForgeText.forge(LATE).finish(), 480);
        says("Returns the number of minutes, 0 if no iron has work; NOT_FOUND if the run is not completed.");
        due("no iron", new ForgeScheduler().finish(), 0);
        due("six irons without steps", ForgeText.forge(SIX_IRONS).finish(), 0);
        due("a is never hot enough, b has no work", ForgeText.forge(COLD).finish(), NOT_FOUND);
        due("b is finished, a is not", ForgeText.forge(TRAP).finish(), NOT_FOUND);
        due("without fire places", ForgeText.forge("iron a 1 1;step a 100 1;").finish(), NOT_FOUND);
        due("too much work", ForgeText.forge(longWork()).finish(), NOT_FOUND);
        part("Promise 20: finishOf");
        says("Returns the minute at which an iron is finished in the run.");
        row("finishOf in PAIR", 0, ForgeText.forge(PAIR)::finishOf, 5, 7);
        row("finishOf in TRIO", 0, ForgeText.forge(TRIO)::finishOf, 10, 15, 22);
        says("Returns the number of minutes after which all its steps are done, 0 if it has no steps; NOT_FOUND if it is not finished in the run.");
        due("two steps", ForgeText.forge("iron a 1 1;step a 100 2;step a 100 3;place 500 500;").finishOf(0), 6);
        row("a is never hot enough, b has no work", 0, ForgeText.forge(COLD)::finishOf, NOT_FOUND, 0);
        row("a is never hot enough, b is", 0, ForgeText.forge(TRAP)::finishOf, NOT_FOUND, 2);
        due("in the last minute", ForgeText.forge(LATE).finishOf(0), 480);
        row("600 minutes of work", 0, ForgeText.forge(longWork())::finishOf, 151, 301, 451, NOT_FOUND);
        says(NO_IRON);
        refusesIrons("finishOf", ForgeScheduler::finishOf);
    }

    /** Four irons with 150 minutes of work each. */
    private static String longWork() {
        StringBuilder text = new StringBuilder(SIX_IRONS.substring(0, 44) + THREE_PLACES);
        for (char name = 'a'; name <= 'd'; name++) text.append(("step " + name + " 100 30;").repeat(5));
        return text.toString();
    }

    private static void heatAfter() {
        part("Promise 21: heatAfter");
        ForgeScheduler x = ForgeText.forge(PAIR);
        says("Returns the temperature of an iron after some minutes of the run.");
        row("heatAfter(0, minute)", 0, m -> x.heatAfter(0, m), 20, 220, 420, 620, 610, 600, 590, 580);
        row("heatAfter(1, minute)", 0, m -> x.heatAfter(1, m), 20, 20, 20, 20, 120, 220, 320, 300, 280);
        says("- `minute`: number of minutes, 0 to 480");
        due("heatAfter(0, 0)", x.heatAfter(0, 0), 20);
        row("heatAfter at the end", 478, m -> ForgeText.forge(COLD).heatAfter(0, m), 400, 400, 400);
        row("heatAfter at the end", 478, m -> ForgeText.forge(LATE).heatAfter(0, m), 498, 499, 498);
        says("Returns the temperature; BAD_VALUE if minute is out of range.");
        badValues("heatAfter(1, minute)", 0, 480, m -> x.heatAfter(1, m));
        says(NO_IRON_FIRST);
        refusesIrons("heatAfter(iron, 480)", (f, i) -> f.heatAfter(i, 480));
        refusesIrons("heatAfter(iron, 481)", (f, i) -> f.heatAfter(i, 481));
        refusesIrons("heatAfter(iron, -1)", (f, i) -> f.heatAfter(i, -1));
    }

    private static void whereIn() {
        part("Promise 22: whereIn");
        ForgeScheduler x = ForgeText.forge(PAIR);
        says("Returns where an iron is during a minute of the run.");
        row("whereIn(0, minute)", 0, m -> x.whereIn(0, m), 1, 1, 1, 10, 10, 0, 0);
        row("whereIn(1, minute)", 0, m -> x.whereIn(1, m), 0, 0, 0, 1, 1, 1, 10, 0);
        says("- `minute`: the minute, 0 to 479");
        row("whereIn in the last minutes", 478, m -> ForgeText.forge(LATE).whereIn(0, m), 1, 10, BAD_VALUE);
        row("whereIn in the first minutes", -1, m -> ForgeText.forge(LATE).whereIn(0, m), BAD_VALUE, 1);
        says("Returns RACK; 1 + p for fire place p; 10 + a for anvil a; BAD_VALUE if minute is out of range.");
        ForgeScheduler y = ForgeText.forge(SIX_IRONS + THREE_PLACES + "step a 100 5;step b 100 5;step c 100 5;step d 100 5;step e 100 5;set anvils 3;");
        row("whereIn(iron, 0)", 0, i -> y.whereIn(i, 0), 1, 2, 3, 0, 0, 0);
        row("whereIn(iron, 1)", 0, i -> y.whereIn(i, 1), 10, 11, 12, 1, 2, 0);
        row("whereIn(iron, 6)", 0, i -> y.whereIn(i, 6), 0, 0, 0, 10, 11, 0);
        badValues("whereIn(0, minute)", 0, 479, m -> y.whereIn(0, m));
        says(NO_IRON_FIRST);
        refusesIrons("whereIn(iron, 479)", (f, i) -> f.whereIn(i, 479));
        refusesIrons("whereIn(iron, 480)", (f, i) -> f.whereIn(i, 480));
        refusesIrons("whereIn(iron, -1)", (f, i) -> f.whereIn(i, -1));
    }

    private static void stepsAfter() {
        part("Promise 23: stepsAfter");
        says("Returns the number of steps of an iron that are done after some minutes of the run.");
        ForgeScheduler x = ForgeText.forge("iron a 1 1;iron b 1 1;step a 100 1;step a 100 2;step a 100 1;step a 100 1;step a 100 1;place 500 500;");
        row("stepsAfter(0, minute)", 0, m -> x.stepsAfter(0, m), 0, 0, 1, 1, 2, 3, 4, 5, 5);
        due("stepsAfter(1, 480) without steps", x.stepsAfter(1, 480), 0);
        says("- `minute`: number of minutes, 0 to 480");
        row("stepsAfter at the end", 479, m -> ForgeText.forge(LATE).stepsAfter(0, m), 0, 1, BAD_VALUE);
        row("stepsAfter at the begin", -1, m -> ForgeText.forge(LATE).stepsAfter(0, m), BAD_VALUE, 0);
        says("Returns the number of steps; BAD_VALUE if minute is out of range.");
        badValues("stepsAfter(0, minute)", 0, 480, m -> x.stepsAfter(0, m));
        due("stepsAfter(0, 480)", x.stepsAfter(0, 480), 5);
        says(NO_IRON_FIRST);
        refusesIrons("stepsAfter(iron, 480)", (f, i) -> f.stepsAfter(i, 480));
        refusesIrons("stepsAfter(iron, 481)", (f, i) -> f.stepsAfter(i, 481));
        refusesIrons("stepsAfter(iron, -1)", (f, i) -> f.stepsAfter(i, -1));
    }

    private static void timesOfIrons() {
        part("Promise 24: coldStops");
        says("Returns how often an iron leaves an anvil in the run because it is too cold.");
        due("five minutes of work, a stop after each but the last", ForgeText.forge(STOPS).coldStops(0), 4);
        row("never too cold", 0, ForgeText.forge(PAIR)::coldStops, 0, 0);
        due("too cold for the next step", ForgeText.forge("iron a 1 1;step a 100 1;step a 200 1;place 100 500;set margin 0;").coldStops(0), 1);
        due("too cold when the run is over", ForgeText.forge(LATE + "step a 499 1;").coldStops(0), 0);
        says(NO_IRON);
        refusesIrons("coldStops", ForgeScheduler::coldStops);
        part("Promise 25: heats");
        says("Returns how often an iron is put into a fire place in the run.");
        due("once before each minute of work", ForgeText.forge(STOPS).heats(0), 5);
        row("once each", 0, ForgeText.forge(PAIR)::heats, 1, 1);
        row("once for the whole run, and without steps", 0, ForgeText.forge(COLD)::heats, 1, 0);
        ForgeScheduler x = ForgeText.forge(STOPS);
        due("five", x.heats(0), 5);
        x.setPlace(0, 2000, 1500);
        due("one, in the run of the hotter place", x.heats(0), 1);
        x.undo();
        due("five again", x.heats(0), 5);
        due("never, without a place", ForgeText.forge("iron a 1 1;step a 100 1;").heats(0), 0);
        says(NO_IRON);
        refusesIrons("heats", ForgeScheduler::heats);
        part("Promise 26: fireMinutes");
        says("Returns the number of minutes of the run that an iron is in a fire place.");
        due("one before each minute of work", ForgeText.forge(STOPS).fireMinutes(0), 5);
        row("three each", 0, ForgeText.forge(PAIR)::fireMinutes, 3, 3);
        row("the whole run, and without steps", 0, ForgeText.forge(COLD)::fireMinutes, 480, 0);
        due("all but the last minute", ForgeText.forge(LATE).fireMinutes(0), 479);
        row("in each of three places", 0, ForgeText.forge(TRIO)::fireMinutes, 1, 10, 15);
        says(NO_IRON);
        refusesIrons("fireMinutes", ForgeScheduler::fireMinutes);
    }

    private static void minutesOfSpots() {
        part("Promise 27: anvilMinutes");
        says("Returns the number of minutes of the run in which an anvil is used.");
        due("one anvil", ForgeText.forge(TRIO).anvilMinutes(0), 21);
        row("two anvils: a on one, b and c on the other", 0, ForgeText.forge(TRIO + "set anvils 2;")::anvilMinutes, 9, 12);
        row("three anvils", 0, ForgeText.forge(TRIO + "set anvils 3;")::anvilMinutes, 9, 5, 7);
        row("never used", 0, ForgeText.forge(COLD + "set anvils 2;")::anvilMinutes, 0, 0);
        due("all minutes but the first", ForgeText.forge(longWork()).anvilMinutes(0), 479);
        due("without irons", new ForgeScheduler().anvilMinutes(0), 0);
        says(NO_ANVIL);
        refusesAnvils("anvilMinutes", ForgeScheduler::anvilMinutes);
        part("Promise 28: placeMinutes");
        says("Returns the number of minutes of the run in which a fire place is used.");
        due("by two irons", ForgeText.forge(PAIR).placeMinutes(0), 6);
        row("by one iron each", 0, ForgeText.forge(TRIO)::placeMinutes, 1, 10, 15);
        due("in all minutes", ForgeText.forge(COLD).placeMinutes(0), 480);
        row("never, in the second place", 0, ForgeText.forge(PAIR.replace("step b 300 1;", "") + "place 9 999;")::placeMinutes, 3, 0);
        due("without irons", ForgeText.forge(THREE_PLACES).placeMinutes(2), 0);
        says(NO_PLACE);
        refusesPlaces("placeMinutes", ForgeScheduler::placeMinutes);
    }

    private static void hottest() {
        part("Promise 29: hottest");
        says("Returns the greatest temperature that an iron has after any number of minutes of the run.");
        row("in the middle", 0, ForgeText.forge(PAIR)::hottest, 620, 320);
        due("after 480 minutes", ForgeText.forge("iron a 1 1;step a 1400 1;place 1 1500;").hottest(0), 500);
        due("after 479 minutes", ForgeText.forge(LATE).hottest(0), 499);
        says("Returns the temperature, at least 20.");
        due("never heated", ForgeText.forge(COLD).hottest(1), 20);
        due("the highest limit", ForgeText.forge("iron a 1 1;step a 1400 1;place 2000 1500;").hottest(0), 1500);
        says(NO_IRON);
        refusesIrons("hottest", ForgeScheduler::hottest);
    }

    private static void lastIron() {
        part("Promise 30: lastIron");
        says("Returns the iron that is finished last in the run.");
        due("b", ForgeText.forge(PAIR).lastIron(), 1);
        due("a of three", ForgeText.forge(TRIO + "set anvils 3;").lastIron(), 0);
        due("c of three", ForgeText.forge(TRIO).lastIron(), 2);
        says("Ties are broken by lower index.");
        String tie = "iron a 1 1;iron b 1 1;iron c 1 1;step a 100 1;step b 100 3;step c 100 3;" + THREE_PLACES + "set anvils 3;";
        due("b and c", ForgeText.forge(tie).lastIron(), 1);
        ForgeScheduler x = ForgeText.forge(tie);
        x.swap(1, 2);
        due("b and c, with c before b in the order", x.lastIron(), 1);
        due("six irons without steps", ForgeText.forge(SIX_IRONS).lastIron(), 0);
        says("Returns the index of the iron; NOT_FOUND if the run is not completed or there are no irons.");
        due("not completed", ForgeText.forge(COLD).lastIron(), NOT_FOUND);
        due("not completed, but b is finished", ForgeText.forge(TRAP).lastIron(), NOT_FOUND);
        due("no irons", new ForgeScheduler().lastIron(), NOT_FOUND);
        due("the last minute", ForgeText.forge(LATE).lastIron(), 0);
    }

    private static void bestOrder() {
        part("Promise 31: bestFinish");
        says("Returns the minute at which all irons would be finished with the best order.");
        due("c, b, a", ForgeText.forge(ROW).bestFinish(), 13);
        due("b, a", ForgeText.forge(TRAP).bestFinish(), 3);
        due("without work", ForgeText.forge(SIX_IRONS).bestFinish(), 0);
        due("without irons", new ForgeScheduler().bestFinish(), 0);
        due("the whole run", ForgeText.forge(LATE).bestFinish(), 480);
        says("Returns the number of minutes; NOT_FOUND if the run is completed with no order.");
        due("never hot enough", ForgeText.forge(COLD).bestFinish(), NOT_FOUND);
        due("too much work", ForgeText.forge(longWork()).bestFinish(), NOT_FOUND);
        part("Promise 32: bestIronAt");
        says("Returns the iron at a position of the best order.");
        row("c, b, a", 0, ForgeText.forge(ROW)::bestIronAt, 2, 1, 0);
        row("all orders are as good", 0, ForgeText.forge(SIX_IRONS)::bestIronAt, 0, 1, 2, 3, 4, 5);
        says("- `position`: 0 for the iron that comes first");
        due("b before a", ForgeText.forge(TRAP).bestIronAt(0), 1);
        says("Returns the index of the iron; NOT_FOUND if the run is completed with no order.");
        row("never hot enough", 0, ForgeText.forge(COLD)::bestIronAt, NOT_FOUND, NOT_FOUND);
        says(NO_POSITION + " (checked first)");
        refusesIrons("bestIronAt", ForgeScheduler::bestIronAt);
        ForgeScheduler x = ForgeText.forge(COLD);
        refuses("bestIronAt without a completed run", 2, x::bestIronAt);
        part("Promise 33: bestOrders");
        says("Returns the number of orders with which all irons are finished at the same minute as with the best order.");
        due("only c, b, a", ForgeText.forge(ROW).bestOrders(), 1);
        due("c before a and b", ForgeText.forge(ROW.replace("step b 100 11", "step b 100 10")).bestOrders(), 2);
        due("all", ForgeText.forge(TRIO).bestOrders(), 6);
        due("all of six", ForgeText.forge(SIX_IRONS).bestOrders(), 720);
        due("one iron", ForgeText.forge(LATE).bestOrders(), 1);
        due("the empty order", new ForgeScheduler().bestOrders(), 1);
        says("Returns the number of orders; 0 if the run is completed with no order.");
        due("never hot enough", ForgeText.forge(COLD).bestOrders(), 0);
        due("too much work", ForgeText.forge(longWork()).bestOrders(), 0);
        ForgeScheduler y = ForgeText.forge(TRIO);
        due("all", y.bestOrders(), 6);
        y.setSetting(MARGIN, 401);
        due("none, with a MARGIN above the limit", y.bestOrders(), 0);
    }

    private static void finishWithSwap() {
        part("Promise 34: finishWithSwap");
        says("Returns the minute at which all irons would be finished if two irons were exchanged in the order.");
        ForgeScheduler x = ForgeText.forge(ROW);
        due("c, b, a", x.finishWithSwap(0, 2), 13);
        due("b, a, c: 12, 12 and 15", x.finishWithSwap(1, 0), 15);
        due("a, c, b: 11, 14 and 14", x.finishWithSwap(1, 2), 14);
        due("an iron with itself", x.finishWithSwap(1, 1), 15);
        due("finish() is the same", x.finish(), 15);
        due("orderCode() is the same", x.orderCode(), 1 | 2 << 3 | 3 << 6);
        x.swap(0, 2);
        due("positions, not irons: b, c, a: 12, 14 and 13", x.finishWithSwap(0, 1), 14);
        says("Returns the number of minutes; NOT_FOUND if the run would not be completed.");
        ForgeScheduler y = ForgeText.forge(TRAP);
        due("b, a", y.finishWithSwap(0, 1), 3);
        due("a, b", y.finishWithSwap(0, 0), NOT_FOUND);
        y.swap(0, 1);
        due("back to a, b", y.finishWithSwap(1, 0), NOT_FOUND);
        due("without work", ForgeText.forge(SIX_IRONS).finishWithSwap(0, 5), 0);
        says("Throws `IndexOutOfBoundsException` if one or other is not from 0 to the number of irons minus 1");
        refusesIrons("finishWithSwap(one, 0)", (f, p) -> f.finishWithSwap(p, 0));
        refusesIrons("finishWithSwap(0, other)", (f, p) -> f.finishWithSwap(0, p));
        refusesIrons("finishWithSwap of the same", (f, p) -> f.finishWithSwap(p, p));
    }

    private static void margins() {
        part("Promise 35: finishWithMargin");
        String text = "iron a 1 1;step a 100 1;place 100 599;";
        ForgeScheduler x = ForgeText.forge(text);
        says("Returns the minute at which all irons would be finished with another MARGIN.");
        due("120 is 100 and 20", x.finishWithMargin(20), 2);
        due("120 is less than 100 and 21", x.finishWithMargin(21), 3);
        due("the present one", x.finishWithMargin(50), x.finish());
        due("getSetting(MARGIN) is the same", x.getSetting(MARGIN), 50);
        says("- `margin`: 0 to 500");
        due("0", x.finishWithMargin(0), 2);
        due("499: 599 in minute 6", x.finishWithMargin(499), 7);
        due("500: 620 in minute 6", ForgeText.forge(text.replace("599", "700")).finishWithMargin(500), 7);
        says("Returns the number of minutes; BAD_VALUE if margin is out of range; NOT_FOUND if the run would not be completed.");
        badValues("finishWithMargin", 0, 500, x::finishWithMargin);
        due("500: above the limit of the place", x.finishWithMargin(500), NOT_FOUND);
        badValues("finishWithMargin of a run that is not completed", 0, 500, ForgeText.forge(COLD)::finishWithMargin);

        part("Promise 36: bestMargin");
        says("Returns the MARGIN with which all irons would be finished first, with the present order.");
        String later = RIVALS.replace("step a 200", "step a 250");
        ForgeScheduler y = ForgeText.forge(later);
        due("70: a is ready in minute 1", y.finishWithMargin(70), 14);
        due("80: b is worked first", y.finishWithMargin(80), 13);
        due("bestMargin()", y.bestMargin(), 80);
        due("getSetting(MARGIN) is the same", y.getSetting(MARGIN), 0);
        y.swap(0, 1);
        due("bestMargin() with b before a", y.bestMargin(), 0);
        says("Ties are broken by lower margin.");
        due("20 and less", x.bestMargin(), 0);
        due("without work", ForgeText.forge(SIX_IRONS).bestMargin(), 0);
        due("without irons", new ForgeScheduler().bestMargin(), 0);
        due("80 and more", ForgeText.forge(later).bestMargin(), 80);
        due("the whole run", ForgeText.forge(LATE).bestMargin(), 0);
        says("Only margins from 0 to 500 that can be divided by 10 are tried.");
        ForgeScheduler z = ForgeText.forge(later.replace("margin 0", "margin 75"));
        due("finish() with 75", z.finish(), 13);
        due("bestMargin()", z.bestMargin(), 80);
        ForgeScheduler w = ForgeText.forge("iron a 1 1;iron b 1 99;step a 200 10;step b 100 1;step b 600 1;place 675 1500;place 600 600;");
        due("490: a is ready in minute 1 with 695", w.finishWithMargin(490), 14);
        due("500: b is worked first", w.finishWithMargin(500), 13);
        due("bestMargin() is the last that is tried", w.bestMargin(), 500);
        says("Returns the margin; NOT_FOUND if the run would be completed with none of them.");
        due("never hot enough", ForgeText.forge(COLD).bestMargin(), NOT_FOUND);
        ForgeScheduler v = ForgeText.forge(text);
        v.setSetting(MARGIN, 500);
        due("not completed now, but with a lower one", v.bestMargin(), 0);
    }

    private static void without() {
        part("Promise 37: finishWithoutPlace");
        says("Returns the minute at which all irons would be finished without one of the fire places.");
        ForgeScheduler x = ForgeText.forge("iron a 1 1;step a 300 1;place 100 200;place 50 400;place 25 350;set margin 0;");
        due("the first: the next one is used, 320 in minute 6", x.finishWithoutPlace(0), 7);
        due("placeCount() is the same", x.placeCount(), 3);
        row("placeRate is the same", 0, x::placeRate, 100, 50, 25);
        ForgeScheduler y = ForgeText.forge(TRIO);
        row("each of three", 0, y::finishWithoutPlace, 22, 22, 22);
        says("Returns the number of minutes; NOT_FOUND if the run would not be completed.");
        due("the second: the first is used, which is too cold", x.finishWithoutPlace(1), NOT_FOUND);
        due("the third", x.finishWithoutPlace(2), NOT_FOUND);
        due("the only one", ForgeText.forge(PAIR).finishWithoutPlace(0), NOT_FOUND);
        due("the only one, without work", ForgeText.forge("place 1 100;iron a 1 1;").finishWithoutPlace(0), 0);
        says(NO_PLACE);
        refusesPlaces("finishWithoutPlace", ForgeScheduler::finishWithoutPlace);

        part("Promise 38: finishWithoutIron");
        says("Returns the minute at which all irons but one would be finished if this one were not there.");
        row("of ROW: b, c and a, c and a, b", 0, ForgeText.forge(ROW)::finishWithoutIron, 14, 14, 13);
        row("of PAIR", 0, ForgeText.forge(PAIR)::finishWithoutIron, 4, 5);
        due("the only one", ForgeText.forge(LATE).finishWithoutIron(0), 0);
        due("the only one, which is never finished", ForgeText.forge(COLD).finishWithoutIron(0), 0);
        ForgeScheduler z = ForgeText.forge(ROW);
        z.finishWithoutIron(1);
        due("ironCount() is the same", z.ironCount(), 3);
        due("stepCount(1) is the same", z.stepCount(1), 1);
        says("Returns the number of minutes; NOT_FOUND if the run would not be completed.");
        due("without b a is never hot enough", ForgeText.forge(TRAP).finishWithoutIron(1), NOT_FOUND);
        due("without a b is", ForgeText.forge(TRAP).finishWithoutIron(0), 2);
        says(NO_IRON);
        refusesIrons("finishWithoutIron", ForgeScheduler::finishWithoutIron);

        part("Promise 39: finishAlone");
        says("Returns the minute at which an iron would be finished if it were the only one.");
        row("of ROW", 0, ForgeText.forge(ROW)::finishAlone, 11, 12, 13);
        row("of PAIR", 0, ForgeText.forge(PAIR)::finishAlone, 5, 4);
        due("the whole run", ForgeText.forge(LATE).finishAlone(0), 480);
        row("of six", 0, ForgeText.forge(SIX_IRONS + "step a 100 1;step f 100 2;place 500 500;")::finishAlone, 2, 0, 0, 0, 0, 3);
        says("Returns the number of minutes, 0 if it has no steps; NOT_FOUND if it would not be finished.");
        row("too cold, and without steps", 0, ForgeText.forge(COLD)::finishAlone, NOT_FOUND, 0);
        row("alone in place 0", 0, ForgeText.forge(TRAP)::finishAlone, NOT_FOUND, 2);
        says(NO_IRON);
        refusesIrons("finishAlone", ForgeScheduler::finishAlone);
    }

    private static void orderCode() {
        part("Promise 40: orderCode");
        says("Returns a number that depends on the order, with irons 0 to 5 in groups of 3 bits: the iron at position p is in the bits "
            + "3 * p to 3 * p + 2, increased by 1; unused groups are 0.");
        int[] codes = {0, 01, 021, 0321, 04321, 054321, 0654321};
        for (int irons = 0; irons <= 6; irons++) due(irons + " irons", ForgeText.forge(SIX_IRONS.substring(0, 11 * irons)).orderCode(), codes[irons]);
        ForgeScheduler x = ForgeText.forge(SIX_IRONS);
        x.swap(0, 5);
        due("f, b, c, d, e, a", x.orderCode(), 0154326);
        x.swap(2, 4);
        due("f, b, e, d, c, a", x.orderCode(), 0134526);
        ForgeText.load(x, "iron a 1 1;iron b 1 1;");
        x.swap(0, 1);
        due("b, a", x.orderCode(), 012);
    }

    private static void setSetting() {
        part("Promise 41: setSetting");
        says("Sets a setting.");
        ForgeScheduler x = ForgeText.forge(TRIO);
        x.setSetting(ForgeScheduler.ANVILS, 3);
        due("finish() with three anvils", x.finish(), 10);
        x.setSetting(ForgeScheduler.MARGIN, 401);
        due("finish() with a MARGIN above the limit", x.finish(), NOT_FOUND);
        x.setSetting(ForgeScheduler.MARGIN, 400);
        x.setSetting(ForgeScheduler.ANVILS, 1);
        x.setSetting(ForgeScheduler.RULE, 2);
        due("the one with least work is first", x.ironOnAnvil(0, 1), 1);
        row("getSetting", 0, x::getSetting, 1, 400, 2);
        says("Setting the value that it already has is also a change.");
        due("undoCount()", x.undoCount(), 5);
        x.setSetting(RULE, 2);
        due("undoCount()", x.undoCount(), 6);
        due("undo()", x.undo(), 5);
        due("getSetting(RULE)", x.getSetting(RULE), 2);
        says("- `setting`: ANVILS, MARGIN or RULE");
        for (int setting : new int[] {-1, 3, LOW, HIGH}) due("setSetting(" + setting + ", 1)", x.setSetting(setting, 1), BAD_VALUE);
        says("- `value`: the new value, in the range of the setting");
        due("ANVILS 1", x.setSetting(ANVILS, 1), 1);
        due("ANVILS 3", x.setSetting(ANVILS, 3), 1);
        due("MARGIN 0", x.setSetting(MARGIN, 0), 400);
        due("MARGIN 500", x.setSetting(MARGIN, 500), 0);
        due("RULE 0", x.setSetting(RULE, 0), 2);
        due("RULE 2", x.setSetting(RULE, 2), 0);
        says("Returns the previous value; BAD_VALUE if setting is none of these or value is out of its range.");
        ForgeScheduler y = ForgeText.forge("set anvils 2;set margin 123;set rule 1;");
        badValues("setSetting(ANVILS, value)", 1, 3, v -> y.setSetting(ANVILS, v));
        badValues("setSetting(MARGIN, value)", 0, 500, v -> y.setSetting(MARGIN, v));
        badValues("setSetting(RULE, value)", 0, 2, v -> y.setSetting(RULE, v));
        row("getSetting is the same", 0, y::getSetting, 2, 123, 1);
        due("undoCount() is the same", y.undoCount(), 0);
        due("ANVILS", y.setSetting(ANVILS, 3), 2);
        due("MARGIN", y.setSetting(MARGIN, 9), 123);
        due("RULE", y.setSetting(RULE, 0), 1);
    }

    private static void swap() {
        part("Promise 42: swap");
        says("Exchanges two irons in the order.");
        ForgeScheduler x = ForgeText.forge(SIX_IRONS);
        due("swap(0, 5)", x.swap(0, 5), true);
        due("swap(5, 1): positions, not irons", x.swap(5, 1), true);
        row("ironAt", 0, x::ironAt, 5, 0, 2, 3, 4, 1);
        ForgeScheduler run = ForgeText.forge(PAIR);
        run.swap(0, 1);
        due("finish() with b first", run.finish(), 8);
        says("Exchanging an iron with itself is also a change.");
        due("swap(3, 3)", x.swap(3, 3), true);
        due("undoCount()", x.undoCount(), 3);
        due("undo()", x.undo(), 2);
        row("ironAt", 0, x::ironAt, 5, 0, 2, 3, 4, 1);
        says("Returns true if it was done; false if one or other is not from 0 to the number of irons minus 1 (nothing changes then).");
        for (int bad : new int[] {-1, 6, 7, LOW, HIGH}) {
            due("swap(" + bad + ", 0)", x.swap(bad, 0), false);
            due("swap(5, " + bad + ")", x.swap(5, bad), false);
            due("swap(" + bad + ", " + bad + ")", x.swap(bad, bad), false);
        }
        due("undoCount() is the same", x.undoCount(), 2);
        row("ironAt is the same", 0, x::ironAt, 5, 0, 2, 3, 4, 1);
        due("swap(0, 2) of two", ForgeText.forge(PAIR).swap(0, 2), false);
        due("swap(0, 0) of none", new ForgeScheduler().swap(0, 0), false);
    }

    private static void useBestOrder() {
        part("Promise 43: useBestOrder");
        says("Makes the best order the present one.");
        ForgeScheduler x = ForgeText.forge(ROW);
        x.useBestOrder();
        row("ironAt", 0, x::ironAt, 2, 1, 0);
        due("finish()", x.finish(), 13);
        due("undoCount()", x.undoCount(), 1);
        due("the best order again is also a change", x.useBestOrder(), 13);
        due("undoCount()", x.undoCount(), 2);
        x.undo();
        due("undo()", x.undo(), 0);
        row("ironAt", 0, x::ironAt, 0, 1, 2);
        says("Returns the minute at which all irons are finished then; NOT_FOUND if the run is completed with no order (nothing changes then).");
        due("b, a", ForgeText.forge(TRAP).useBestOrder(), 3);
        due("without work", ForgeText.forge(SIX_IRONS).useBestOrder(), 0);
        due("without irons", new ForgeScheduler().useBestOrder(), 0);
        ForgeScheduler y = ForgeText.forge(COLD);
        y.swap(0, 1);
        due("never hot enough", y.useBestOrder(), NOT_FOUND);
        due("orderCode() is the same", y.orderCode(), 012);
        due("undoCount() is the same", y.undoCount(), 1);
    }

    private static void setPlace() {
        part("Promise 44: setPlace");
        says("Sets the rate and the limit of a fire place.");
        ForgeScheduler x = ForgeText.forge("iron a 1 1;step a 300 1;" + THREE_PLACES);
        due("setPlace(2, 222, 999)", x.setPlace(2, 222, 999), true);
        due("setPlace(0, 100, 299)", x.setPlace(0, 100, 299), true);
        row("placeRate", 0, x::placeRate, 100, 500, 222);
        row("placeLimit", 0, x::placeLimit, 299, 500, 999);
        due("finish() with a lower limit", x.finish(), NOT_FOUND);
        says("Setting the values that it already has is also a change.");
        due("setPlace(1, 500, 500)", x.setPlace(1, 500, 500), true);
        due("undoCount()", x.undoCount(), 3);
        due("undo()", x.undo(), 2);
        row("placeRate", 0, x::placeRate, 100, 500, 222);
        says("- `rate`: the new rate, 1 to 2000");
        due("1", x.setPlace(1, 1, 500), true);
        due("2000", x.setPlace(1, 2000, 500), true);
        due("placeRate(1)", x.placeRate(1), 2000);
        says("- `limit`: the new limit, 100 to 1500");
        due("100", x.setPlace(1, 500, 100), true);
        due("1500", x.setPlace(1, 500, 1500), true);
        due("placeLimit(1)", x.placeLimit(1), 1500);
        says("Returns true if it was done; false if place is not a valid index, or rate or limit is out of range (nothing changes then).");
        String before = state(x);
        for (int bad : new int[] {-1, 3, LOW, HIGH}) due("setPlace(" + bad + ", 5, 500)", x.setPlace(bad, 5, 500), false);
        for (int bad : new int[] {-1, 0, 2001, LOW, HIGH}) due("setPlace(0, " + bad + ", 500)", x.setPlace(0, bad, 500), false);
        for (int bad : new int[] {-1, 99, 1501, LOW, HIGH}) due("setPlace(0, 5, " + bad + ")", x.setPlace(0, 5, bad), false);
        due("the forge is the same", state(x), before);
        due("setPlace(1, 5, 500) of one", ForgeText.forge(PAIR).setPlace(1, 5, 500), false);
        due("setPlace(0, 5, 500) of none", new ForgeScheduler().setPlace(0, 5, 500), false);
    }

    private static void addStep() {
        part("Promise 45: addStep");
        says("Adds a step to an iron, behind its other steps.");
        ForgeScheduler x = ForgeText.forge(PAIR);
        due("addStep(0, 700, 7)", x.addStep(0, 700, 7), 2);
        due("addStep(0, 600, 6)", x.addStep(0, 600, 6), 3);
        row("stepHeat(0, step)", 0, s -> x.stepHeat(0, s), 500, 700, 600);
        row("stepMinutes(0, step)", 0, s -> x.stepMinutes(0, s), 2, 7, 6);
        due("stepCount(1) is the same", x.stepCount(1), 1);
        says("- `heat`: the lowest temperature, 100 to 1400");
        due("100", x.addStep(1, 100, 5), 2);
        due("1400", x.addStep(1, 1400, 5), 3);
        row("stepHeat(1, step)", 0, s -> x.stepHeat(1, s), 300, 100, 1400);
        says("- `minutes`: the number of minutes of work, 1 to 30");
        due("1", x.addStep(1, 500, 1), 4);
        due("30", x.addStep(1, 500, 30), 5);
        row("stepMinutes(1, step)", 0, s -> x.stepMinutes(1, s), 1, 5, 5, 1, 30);
        says("Returns the new number of steps of the iron; NOT_FOUND if iron is not a valid index (checked first); "
            + "BAD_VALUE if heat or minutes is out of range; FULL if the iron has 5 steps.");
        String before = state(x);
        for (int bad : new int[] {-1, 2, 6, LOW, HIGH}) {
            due("addStep(" + bad + ", 500, 5)", x.addStep(bad, 500, 5), NOT_FOUND);
            due("addStep(" + bad + ", 0, 0)", x.addStep(bad, 0, 0), NOT_FOUND);
        }
        badValues("addStep(0, heat, 5)", 100, 1400, h -> x.addStep(0, h, 5));
        badValues("addStep(0, 500, minutes)", 1, 30, m -> x.addStep(0, 500, m));
        badValues("addStep(1, heat, 5) to five", 100, 1400, h -> x.addStep(1, h, 5));
        badValues("addStep(1, 500, minutes) to five", 1, 30, m -> x.addStep(1, 500, m));
        due("addStep(1, 500, 5) to five", x.addStep(1, 500, 5), FULL);
        due("addStep(0, 500, 5) of no irons", new ForgeScheduler().addStep(0, 500, 5), NOT_FOUND);
        due("the forge is the same", state(x), before);
        due("addStep(0, 500, 5) to three", x.addStep(0, 500, 5), 4);
    }

    private static void removeStep() {
        part("Promise 46: removeStep");
        says("Removes the last step of an iron.");
        ForgeScheduler x = ForgeText.forge("iron a 1 1;iron b 1 1;step a 100 1;step a 200 2;step a 300 3;step b 400 4;");
        due("removeStep(0)", x.removeStep(0), 2);
        row("stepHeat(0, step)", 0, s -> x.stepHeat(0, s), 100, 200);
        row("stepMinutes(0, step)", 0, s -> x.stepMinutes(0, s), 1, 2);
        throwsIndex("stepHeat(0, 2)", () -> x.stepHeat(0, 2));
        due("stepCount(1) is the same", x.stepCount(1), 1);
        due("a new step in its place", x.addStep(0, 900, 9), 3);
        due("stepHeat(0, 2)", x.stepHeat(0, 2), 900);
        says("Returns the new number of steps of the iron; NOT_FOUND if iron is not a valid index or has no steps.");
        due("the last step of b", x.removeStep(1), 0);
        due("finishOf(1)", x.finishOf(1), 0);
        String before = state(x);
        due("b has no steps", x.removeStep(1), NOT_FOUND);
        for (int bad : new int[] {-1, 2, 6, LOW, HIGH}) due("removeStep(" + bad + ")", x.removeStep(bad), NOT_FOUND);
        due("the forge is the same", state(x), before);
        due("removeStep(0) of no irons", new ForgeScheduler().removeStep(0), NOT_FOUND);
        ForgeScheduler y = ForgeText.forge("iron a 1 1;" + "step a 100 1;".repeat(5));
        row("all steps", 0, i -> y.removeStep(0), 4, 3, 2, 1, 0, NOT_FOUND);
    }

    private static void undo() {
        part("Promise 47: undo");
        says("Undoes the latest change that is kept.");
        ForgeScheduler x = ForgeText.forge(PAIR);
        x.setSetting(MARGIN, 7);
        x.swap(0, 1);
        x.setPlace(0, 300, 900);
        x.undo();
        due("placeRate(0)", x.placeRate(0), 200);
        due("orderCode()", x.orderCode(), 012);
        x.undo();
        due("orderCode()", x.orderCode(), 021);
        due("getSetting(MARGIN)", x.getSetting(MARGIN), 7);
        x.addStep(0, 600, 1);
        x.undo();
        due("stepCount(0)", x.stepCount(0), 1);
        due("getSetting(MARGIN)", x.getSetting(MARGIN), 7);
        x.undo();
        due("getSetting(MARGIN)", x.getSetting(MARGIN), 0);
        due("finish()", x.finish(), 7);
        says("Returns the number of changes that can still be undone; NOT_FOUND if there is none to undo.");
        due("undo() of a forge as it was loaded", x.undo(), NOT_FOUND);
        due("undo() of a new object", new ForgeScheduler().undo(), NOT_FOUND);
        for (int margin = 1; margin <= 13; margin++) x.setSetting(MARGIN, margin);
        for (int left = 11; left >= 0; left--) {
            due("undo()", x.undo(), left);
            due("getSetting(MARGIN)", x.getSetting(MARGIN), left + 1);
        }
        due("undo() of the thirteenth", x.undo(), NOT_FOUND);
        due("getSetting(MARGIN)", x.getSetting(MARGIN), 1);
        x.setSetting(MARGIN, 99);
        due("undo() of one", x.undo(), 0);
        due("getSetting(MARGIN)", x.getSetting(MARGIN), 1);
    }

    private static void rackMinutes() {
        part("Promise 48: rackMinutes");
        says("Returns the number of minutes of the run that an iron is on the rack and not finished.");
        row("a never, b until a leaves the fire", 0, ForgeText.forge(PAIR)::rackMinutes, 0, 3);
        row("in the fire, and without steps", 0, ForgeText.forge(COLD)::rackMinutes, 0, 0);
        due("without a place", ForgeText.forge("iron a 1 1;step a 100 1;").rackMinutes(0), 480);
        row("stopped, with the place used", 0, ForgeText.forge("iron a 1 10;iron b 1 1;step a 400 1;step a 900 1;step b 1400 1;place 500 1500;set margin 0;")::rackMinutes, 2, 1);
        row("the fourth has a place in minute 1", 0, ForgeText.forge(longWork())::rackMinutes, 0, 0, 0, 1);
        says(NO_IRON);
        refusesIrons("rackMinutes", ForgeScheduler::rackMinutes);
    }

    private static void firstWork() {
        part("Promise 49: firstWork");
        says("Returns the first minute of the run in which an iron is on an anvil.");
        row("of PAIR", 0, ForgeText.forge(PAIR)::firstWork, 3, 6);
        row("of TRIO", 0, ForgeText.forge(TRIO)::firstWork, 1, 10, 15);
        row("on each of three anvils", 0, ForgeText.forge(TRIO + "set anvils 3;")::firstWork, 1, 1, 1);
        due("the last minute", ForgeText.forge(LATE).firstWork(0), 479);
        says("Returns the minute; NOT_FOUND if there is none.");
        row("never hot enough, and without steps", 0, ForgeText.forge(COLD)::firstWork, NOT_FOUND, NOT_FOUND);
        due("hot enough after the run", ForgeText.forge(LATE.replace("499", "500")).firstWork(0), NOT_FOUND);
        due("worked, but never finished", ForgeText.forge(longWork()).firstWork(3), 451);
        due("the last of six, without steps", ForgeText.forge(SIX_IRONS).firstWork(5), NOT_FOUND);
        due("the last of six, never hot enough", ForgeText.forge(SIX_IRONS + "step f 1000 1;place 500 500;").firstWork(5), NOT_FOUND);
        says(NO_IRON);
        refusesIrons("firstWork", ForgeScheduler::firstWork);
    }

    private static void ironInPlace() {
        part("Promise 50: ironInPlace");
        says("Returns the iron that is in a fire place during a minute of the run.");
        ForgeScheduler x = ForgeText.forge(PAIR);
        row("ironInPlace(0, minute)", 0, m -> x.ironInPlace(0, m), 0, 0, 0, 1, 1, 1, NOT_FOUND);
        row("ironInPlace(place, 0)", 0, p -> ForgeText.forge(TRIO).ironInPlace(p, 0), 0, 1, 2);
        says("- `minute`: the minute, 0 to 479");
        row("ironInPlace(0, minute)", -1, m -> ForgeText.forge(COLD).ironInPlace(0, m), BAD_VALUE, 0);
        row("ironInPlace(0, minute)", 479, m -> ForgeText.forge(COLD).ironInPlace(0, m), 0, BAD_VALUE);
        says("Returns the index of the iron; NOT_FOUND if there is none; BAD_VALUE if minute is out of range.");
        row("ironInPlace(2, minute)", 14, m -> ForgeText.forge(TRIO).ironInPlace(2, m), 2, NOT_FOUND);
        due("no irons", ForgeText.forge(THREE_PLACES).ironInPlace(2, 479), NOT_FOUND);
        due("none of six", ForgeText.forge(SIX_IRONS + THREE_PLACES).ironInPlace(2, 479), NOT_FOUND);
        ForgeScheduler y = ForgeText.forge(TRIO);
        due("c", y.ironInPlace(2, 0), 2);
        ForgeText.load(y, "iron a 1 1;step a 100 1;" + THREE_PLACES);
        row("a alone, after another load", 0, p -> y.ironInPlace(p, 0), 0, NOT_FOUND, NOT_FOUND);
        badValues("ironInPlace(0, minute)", 0, 479, m -> x.ironInPlace(0, m));
        says(NO_PLACE_FIRST);
        refusesPlaces("ironInPlace(place, 0)", (f, p) -> f.ironInPlace(p, 0));
        refusesPlaces("ironInPlace(place, 480)", (f, p) -> f.ironInPlace(p, 480));
        refusesPlaces("ironInPlace(place, -1)", (f, p) -> f.ironInPlace(p, -1));
    }

    private static void ironOnAnvil() {
        part("Promise 51: ironOnAnvil");
        says("Returns the iron that is on an anvil during a minute of the run.");
        ForgeScheduler x = ForgeText.forge(PAIR);
        row("ironOnAnvil(0, minute)", 2, m -> x.ironOnAnvil(0, m), NOT_FOUND, 0, 0, NOT_FOUND, 1, NOT_FOUND);
        row("ironOnAnvil(anvil, 1)", 0, a -> ForgeText.forge(TRIO + "set anvils 3;").ironOnAnvil(a, 1), 0, 1, 2);
        says("- `minute`: the minute, 0 to 479");
        row("ironOnAnvil(0, minute)", 478, m -> ForgeText.forge(LATE).ironOnAnvil(0, m), NOT_FOUND, 0, BAD_VALUE);
        row("ironOnAnvil(0, minute)", -1, m -> ForgeText.forge(LATE).ironOnAnvil(0, m), BAD_VALUE, NOT_FOUND);
        says("Returns the index of the iron; NOT_FOUND if there is none; BAD_VALUE if minute is out of range.");
        row("ironOnAnvil(1, minute)", 5, m -> ForgeText.forge(TRIO + "set anvils 2;").ironOnAnvil(1, m), 1, 2);
        row("ironOnAnvil(1, minute)", 12, m -> ForgeText.forge(TRIO + "set anvils 2;").ironOnAnvil(1, m), 2, NOT_FOUND);
        due("no irons", new ForgeScheduler().ironOnAnvil(0, 0), NOT_FOUND);
        due("none of six", ForgeText.forge(SIX_IRONS + THREE_PLACES).ironOnAnvil(0, 479), NOT_FOUND);
        badValues("ironOnAnvil(0, minute)", 0, 479, m -> x.ironOnAnvil(0, m));
        says(NO_ANVIL + " (checked first)");
        refusesAnvils("ironOnAnvil(anvil, 0)", (f, a) -> f.ironOnAnvil(a, 0));
        refusesAnvils("ironOnAnvil(anvil, 480)", (f, a) -> f.ironOnAnvil(a, 480));
        refusesAnvils("ironOnAnvil(anvil, -1)", (f, a) -> f.ironOnAnvil(a, -1));
    }

    private static void finishedBy() {
        part("Promise 52: finishedBy");
        says("Returns the number of irons that are finished after some minutes of the run.");
        row("of PAIR", 3, ForgeText.forge(PAIR)::finishedBy, 0, 0, 1, 1, 2);
        row("of TRIO", 9, ForgeText.forge(TRIO)::finishedBy, 0, 1);
        row("of TRIO", 21, ForgeText.forge(TRIO)::finishedBy, 2, 3);
        due("six without steps", ForgeText.forge(SIX_IRONS).finishedBy(0), 6);
        says("- `minute`: number of minutes, 0 to 480");
        row("at the end", 479, ForgeText.forge(LATE)::finishedBy, 0, 1, BAD_VALUE);
        row("at the begin, with one iron without steps", -1, ForgeText.forge(COLD)::finishedBy, BAD_VALUE, 1);
        says("Returns the number of irons; BAD_VALUE if minute is out of range.");
        badValues("finishedBy", 0, 480, ForgeText.forge(PAIR)::finishedBy);
        badValues("finishedBy without irons", 0, 480, new ForgeScheduler()::finishedBy);
        due("finishedBy(480) without irons", new ForgeScheduler().finishedBy(480), 0);
    }

    private static void idleMinutes() {
        part("Promise 53: idleMinutes");
        says("Returns the number of minutes of the run in which at least one anvil is not used although some iron is not finished before the minute passes.");
        due("0 to 2 and 5", ForgeText.forge(PAIR).idleMinutes(), 4);
        due("one of two anvils in all of 0 to 6, the last one too", ForgeText.forge(PAIR + "set anvils 2;").idleMinutes(), 7);
        due("0 alone", ForgeText.forge(TRIO).idleMinutes(), 1);
        due("two anvils: 0 and 10 to 12", ForgeText.forge(TRIO + "set anvils 2;").idleMinutes(), 4);
        due("three anvils: 0 and 6 to 9", ForgeText.forge(TRIO + "set anvils 3;").idleMinutes(), 5);
        due("never hot enough", ForgeText.forge(COLD).idleMinutes(), 480);
        due("all but the last minute", ForgeText.forge(LATE).idleMinutes(), 479);
        due("too much work: 0 alone", ForgeText.forge(longWork()).idleMinutes(), 1);
        due("without work", ForgeText.forge(SIX_IRONS).idleMinutes(), 0);
        due("one of six: 0 alone", ForgeText.forge(SIX_IRONS + "step f 100 9;" + THREE_PLACES).idleMinutes(), 1);
        ForgeScheduler x = ForgeText.forge(TRIO + "set anvils 3;");
        due("three anvils", x.idleMinutes(), 5);
        ForgeText.load(x, "iron a 1 1;step a 100 9;set anvils 2;" + THREE_PLACES);
        due("one iron on two anvils: 0 to 9", x.idleMinutes(), 10);
        due("without irons", new ForgeScheduler().idleMinutes(), 0);
    }

    private static void finishWithAnvils() {
        part("Promise 54: finishWithAnvils");
        says("Returns the minute at which all irons would be finished with another number of anvils.");
        ForgeScheduler x = ForgeText.forge(TRIO);
        row("of TRIO", 1, x::finishWithAnvils, 22, 13, 10);
        due("getSetting(ANVILS) is the same", x.getSetting(ANVILS), 1);
        due("finish() is the same", x.finish(), 22);
        says("- `anvils`: 1 to 3");
        row("of TRIO", 0, x::finishWithAnvils, BAD_VALUE, 22, 13, 10, BAD_VALUE);
        says("Returns the number of minutes; BAD_VALUE if anvils is out of range; NOT_FOUND if the run would not be completed.");
        badValues("finishWithAnvils", 1, 3, x::finishWithAnvils);
        row("600 minutes of work", 1, ForgeText.forge(longWork())::finishWithAnvils, NOT_FOUND, 301, 301);
        row("never hot enough", 0, ForgeText.forge(COLD)::finishWithAnvils, BAD_VALUE, NOT_FOUND, NOT_FOUND, NOT_FOUND, BAD_VALUE);
        due("without irons", new ForgeScheduler().finishWithAnvils(3), 0);
    }

    private static void bestRule() {
        part("Promise 55: bestRule");
        says("Returns the RULE with which all irons would be finished first, with the present order.");
        ForgeScheduler x = ForgeText.forge(RIVALS);
        due("b has two minutes of work, a ten", x.bestRule(), 2);
        due("getSetting(RULE) is the same", x.getSetting(RULE), 0);
        due("finish() is the same", x.finish(), 14);
        x.swap(0, 1);
        due("b is first", x.bestRule(), 0);
        says("Ties are broken by lower number.");
        ForgeScheduler y = ForgeText.forge(RIVALS.replace("place 300 500", "place 301 500"));
        due("b is hotter and has less work", y.bestRule(), 1);
        due("all are equal", ForgeText.forge(PAIR).bestRule(), 0);
        due("all are equal, with RULE 2 now", ForgeText.forge(PAIR + "set rule 2;").bestRule(), 0);
        due("without irons", new ForgeScheduler().bestRule(), 0);
        due("the whole run", ForgeText.forge(LATE).bestRule(), 0);
        says("Returns the rule; NOT_FOUND if the run would be completed with none.");
        due("never hot enough", ForgeText.forge(COLD).bestRule(), NOT_FOUND);
        due("too much work", ForgeText.forge(longWork()).bestRule(), NOT_FOUND);
    }

    private static void finishWithRate() {
        part("Promise 56: finishWithRate");
        ForgeScheduler x = ForgeText.forge("iron a 1 1;step a 100 1;place 40 1000;place 1 100;set margin 0;");
        says("Returns the minute at which all irons would be finished if a fire place had another rate.");
        due("80: 100 after a minute", x.finishWithRate(0, 80), 2);
        due("79: 99 after a minute", x.finishWithRate(0, 79), 3);
        due("a place that is not used", x.finishWithRate(1, 2000), 3);
        due("finish() is the same", x.finish(), 3);
        due("placeRate(0) is the same", x.placeRate(0), 40);
        says("- `rate`: 1 to 2000");
        due("1", x.finishWithRate(0, 1), 81);
        due("2000", x.finishWithRate(0, 2000), 2);
        says("Returns the number of minutes; BAD_VALUE if rate is out of range; NOT_FOUND if the run would not be completed.");
        badValues("finishWithRate(0, rate)", 1, 2000, r -> x.finishWithRate(0, r));
        badValues("finishWithRate(1, rate)", 1, 2000, r -> x.finishWithRate(1, r));
        due("never hot enough", ForgeText.forge(COLD).finishWithRate(0, 2000), NOT_FOUND);
        due("not hot enough in 480 minutes", ForgeText.forge(LATE.replace("499", "500")).finishWithRate(0, 1), NOT_FOUND);
        due("hot enough in 240 minutes", ForgeText.forge(LATE.replace("499", "500")).finishWithRate(0, 2), 241);
        says(NO_PLACE_FIRST);
        refusesPlaces("finishWithRate(place, 5)", (f, p) -> f.finishWithRate(p, 5));
        refusesPlaces("finishWithRate(place, 0)", (f, p) -> f.finishWithRate(p, 0));
        refusesPlaces("finishWithRate(place, 2001)", (f, p) -> f.finishWithRate(p, 2001));
    }

    private static void leastRate() {
        part("Promise 57: leastRate");
        says("Returns the least rate of a fire place with which all irons would be finished no later than now.");
        ForgeScheduler x = ForgeText.forge("iron a 1 1;step a 100 1;place 50 1000;place 7 100;set margin 0;");
        due("two minutes with 50, and with 40", x.leastRate(0), 40);
        due("a place that is not used", x.leastRate(1), 20);
        due("placeRate(0) is the same", x.placeRate(0), 50);
        due("finish() is the same", x.finish(), 3);
        due("without work", ForgeText.forge(THREE_PLACES).leastRate(2), 20);
        says("Only rates from 20 to 2000 that can be divided by 20 are tried.");
        ForgeScheduler y = ForgeText.forge("iron a 1 1;step a 101 1;place 2000 1000;set margin 0;");
        due("81 would do, 100 is tried", y.leastRate(0), 100);
        y.setPlace(0, 11, 1000);
        due("11 would do, 20 is tried", y.leastRate(0), 20);
        ForgeScheduler z = ForgeText.forge("iron a 2 1;step a 1020 1;place 2000 1500;set margin 0;");
        due("the last that is tried", z.leastRate(0), 2000);
        z.setPlace(0, 1999, 1500);
        due("two minutes with 1999, and with 1000", z.leastRate(0), 1000);
        says("Returns the rate; NOT_FOUND if there is none, or the run is not completed now.");
        ForgeScheduler w = ForgeText.forge("iron a 1 1;iron b 1 99;step a 100 1;step b 600 2;place 16 300;place 200 1500;set margin 0;");
        due("b is heated again in place 1, while a is in place 0", w.finish(), 7);
        due("with 20 or more a has left place 0 by then, and it is too cold for b", w.leastRate(0), NOT_FOUND);
        due("finishWithRate(0, 20)", w.finishWithRate(0, 20), NOT_FOUND);
        due("finishWithRate(0, 19)", w.finishWithRate(0, 19), 7);
        ForgeScheduler v = ForgeText.forge("iron a 1 1;step a 1000 1;place 1 1500;set margin 0;");
        due("not completed now", v.leastRate(0), NOT_FOUND);
        due("but completed with 2000", v.finishWithRate(0, 2000), 2);
        says(NO_PLACE);
        refusesPlaces("leastRate", ForgeScheduler::leastRate);
        ForgeScheduler cold = ForgeText.forge(COLD);
        refuses("leastRate of a run that is not completed", 1, cold::leastRate);
    }

    private static void criticalIrons() {
        part("Promise 58: criticalIrons");
        says("Returns the irons without which, one at a time, all others would be finished earlier than all irons are now.");
        due("14, 14 and 13 instead of 15", ForgeText.forge(ROW).criticalIrons(), 7);
        due("a alone takes as long: 10, 10 and 10 without b or c", ForgeText.forge(TRIO + "set anvils 3;").criticalIrons(), 1);
        due("b alone takes as long", ForgeText.forge(TRIO.replace("step a 100 9", "step a 100 1").replace("step b 100 5", "step b 100 9") + "set anvils 3;").criticalIrons(), 2);
        due("without work", ForgeText.forge(SIX_IRONS).criticalIrons(), 0);
        due("without irons", new ForgeScheduler().criticalIrons(), 0);
        ForgeScheduler x = ForgeText.forge("iron a 1 1;iron b 1 99;step a 200 5;step b 400 3;place 8 200;place 100 600;set margin 0;");
        due("finish(): a in place 0 is worked in 23, 25 .. 31", x.finish(), 32);
        due("without a b is never finished", x.finishWithoutIron(0), NOT_FOUND);
        due("so a is not critical, and without b it is as late", x.criticalIrons(), 0);
        says("Returns the irons as a bit set: bit i is 1 for iron i; 0 if the run is not completed now.");
        for (int iron = 0; iron < 6; iron++) {
            char name = (char) ('a' + iron);
            due("only " + name + " has work", ForgeText.forge(SIX_IRONS + THREE_PLACES + "step " + name + " 100 1;").criticalIrons(), 1 << iron);
        }
        due("not completed, and completed without a", ForgeText.forge(TRAP).criticalIrons(), 0);
        due("never hot enough", ForgeText.forge(COLD).criticalIrons(), 0);
        due("completed with b first", criticalWithSwap(), 1);
    }

    /** TRAP with b, a: 3 minutes; 2 without a, never finished without b. */
    private static int criticalWithSwap() {
        ForgeScheduler x = ForgeText.forge(TRAP);
        x.swap(0, 1);
        return x.criticalIrons();
    }
}

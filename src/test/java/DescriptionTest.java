import java.util.function.Consumer;

/** The description of the document, sentence by sentence: the forge, its run, the best order, changes and the text format. */
public final class DescriptionTest extends Sentences {
    private static final String SIX_IRONS = "iron a 1 1;iron b 1 1;iron c 1 1;iron d 1 1;iron e 1 1;iron f 1 1;";
    private static final String THREE_PLACES = "place 100 1000;place 200 900;place 300 800;";
    /** One place: a is heated in minutes 0 to 2 and worked in 3 and 4, b is heated in 3 to 5 and worked in 6. */
    private static final String PAIR = "iron a 1 10;iron b 2 20;step a 500 2;step b 300 1;place 200 1000;set margin 0;";
    /** Ready together in minute 1 with 220, 320 and 420 degrees, and 9, 5 and 7 minutes of work. */
    private static final String TRIO = "iron a 1 1;iron b 1 1;iron c 1 1;step a 100 9;step b 100 5;step c 100 7;"
        + "place 200 900;place 300 900;place 400 900;set margin 0;";

    public static void main(String[] args) {
        part("What it is");
        lengthOfUse();
        part("Description");
        irons();
        places();
        settings();
        beginAndEnd();
        finished();
        clearing();
        anvils();
        rules();
        fire();
        passing();
        consequences();
        bestOrder();
        changes();
        refusals();
        tokens();
        grammar();
        names();
        errors();
        errorsOfEachKind();
        constants();
        end("DescriptionTest", "What it is|Description");
    }

    private static void lengthOfUse() {
        says("An object is used for at most 512 calls after it has been made; what later calls answer is free.");
        ForgeScheduler x = new ForgeScheduler();
        for (int call = 1; call <= 511; call++) {
            due("setSetting, call " + call, x.setSetting(MARGIN, call % 500), call == 1 ? 50 : (call - 1) % 500);
        }
        due("undo() as call 512", x.undo(), 11);
    }

    private static void irons() {
        says("There are at most 6 irons and at most 3 fire places, each indexed from 0 in the order in which they are declared.");
        String mixed = "place 100 1000;iron b 1 11;place 200 900;iron a 2 12;iron f 3 13;iron e 4 14;place 300 800;iron d 5 15;iron c 6 16;";
        ForgeScheduler x = ForgeText.forge(mixed);
        due("ironCount()", x.ironCount(), 6);
        due("placeCount()", x.placeCount(), 3);
        String declared = "bafedc";
        for (int iron = 0; iron < 6; iron++) {
            due("ironNamed, iron " + iron, x.ironNamed(ForgeText.letters(declared.substring(iron, iron + 1))), iron);
        }
        row("mass", 0, x::mass, 1, 2, 3, 4, 5, 6);
        row("cooling", 0, x::cooling, 11, 12, 13, 14, 15, 16);
        row("placeRate", 0, x::placeRate, 100, 200, 300);
        row("placeLimit", 0, x::placeLimit, 1000, 900, 800);
        loads(mixed + "iron g 7 7;", COUNT, mixed.length());
        loads(mixed + "place 400 700;", COUNT, mixed.length());

        says("An iron has a mass (1 to 9), a cooling (1 to 99 degrees per minute), and at most 5 steps, which must be done one after the other.");
        ForgeScheduler y = ForgeText.forge("iron a 1 99;iron b 9 1;");
        due("mass(0)", y.mass(0), 1);
        due("mass(1)", y.mass(1), 9);
        due("cooling(0)", y.cooling(0), 99);
        due("cooling(1)", y.cooling(1), 1);
        loads("iron a 0 1;", RANGE, 7);
        loads("iron a 10 1;", RANGE, 7);
        loads("iron a 1 0;", RANGE, 9);
        loads("iron a 1 100;", RANGE, 9);
        loads("iron a 1 1;" + "step a 100 1;".repeat(5), 6, NOT_FOUND);
        loads("iron a 1 1;" + "step a 100 1;".repeat(6), COUNT, 81);
        for (int steps = 1; steps <= 5; steps++) due("addStep", y.addStep(1, 100, 1), steps);
        due("a sixth addStep", y.addStep(1, 100, 1), FULL);
        due("a step of the other iron", y.addStep(0, 100, 1), 1);
        ForgeScheduler z = ForgeText.forge("iron a 1 1;step a 500 1;step a 100 1;place 100 1000;set margin 0;");
        row("whereIn: hot enough for the second step alone", 0, m -> z.whereIn(0, m), 1, 1, 1, 1, 1, 10, 10, 0);
        row("stepsAfter", 4, m -> z.stepsAfter(0, m), 0, 0, 1, 2);

        says("A step has a lowest temperature (100 to 1400) and a number of minutes of work (1 to 30).");
        ForgeScheduler w = ForgeText.forge("iron a 1 1;iron b 1 1;step a 1400 30;step b 100 1;place 2000 1500;");
        due("finishOf(0): heated in 0, worked in 1 to 30", w.finishOf(0), 31);
        due("finishOf(1): heated in 1 and behind it", w.finishOf(1), 32);
        loads("iron a 1 1;step a 99 1;", RANGE, 18);
        loads("iron a 1 1;step a 1401 1;", RANGE, 18);
        loads("iron a 1 1;step a 100 0;", RANGE, 22);
        loads("iron a 1 1;step a 1400 31;", RANGE, 23);
    }

    private static void places() {
        says("A fire place has a rate (1 to 2000) and a limit (100 to 1500 degrees).");
        ForgeScheduler x = ForgeText.forge("iron a 1 1;iron b 1 1;step a 1400 1;step b 1400 1;place 2000 1500;place 1 100;");
        row("heatAfter of a", 0, m -> x.heatAfter(0, m), 20, 1500);
        row("heatAfter of b", 0, m -> x.heatAfter(1, m), 20, 21, 22);
        due("a lowest limit", x.setPlace(1, 2000, 100), true);
        row("heatAfter of b at the limit", 0, m -> x.heatAfter(1, m), 20, 100, 100);
        due("a lowest rate with the highest limit", x.setPlace(0, 1, 1500), true);
        row("heatAfter of a", 0, m -> x.heatAfter(0, m), 20, 21, 22);
        loads("place 0 100;", RANGE, 6);
        loads("place 2001 100;", RANGE, 6);
        loads("place 1 99;", RANGE, 8);
        loads("place 1 1501;", RANGE, 8);

        says("The order is a sequence of all irons, initially by their indices.");
        ForgeScheduler y = ForgeText.forge("iron f 1 1;iron e 1 1;iron d 1 1;iron c 1 1;iron b 1 1;iron a 1 1;");
        row("ironAt", 0, y::ironAt, 0, 1, 2, 3, 4, 5);
        row("positionOf", 0, y::positionOf, 0, 1, 2, 3, 4, 5);
        y.swap(0, 5);
        y.swap(5, 1);
        row("ironAt after swaps", 0, y::ironAt, 5, 0, 2, 3, 4, 1);
        row("positionOf after swaps", 0, y::positionOf, 1, 5, 2, 3, 4, 0);
    }

    private static void settings() {
        says("The settings, with their ranges and initial values, are ANVILS, the number of anvils (1 to 3, initially 1); "
            + "MARGIN (0 to 500 degrees, initially 50); and RULE (0 to 2, initially 0).");
        ForgeScheduler x = new ForgeScheduler();
        row("getSetting of a new object", 0, x::getSetting, 1, 50, 0);
        ForgeText.load(x, "set anvils 3;set margin 500;set rule 2;");
        row("getSetting of the greatest", 0, x::getSetting, 3, 500, 2);
        ForgeText.load(x, "place 1 100;");
        row("getSetting of a text without settings", 0, x::getSetting, 1, 50, 0);
        ForgeText.load(x, "set anvils 1;set margin 0;set rule 0;");
        row("getSetting of the least", 0, x::getSetting, 1, 0, 0);
        loads("set anvils 0;", RANGE, 11);
        loads("set anvils 4;", RANGE, 11);
        loads("set margin 501;", RANGE, 11);
        loads("set rule 3;", RANGE, 9);
        int[][] ranges = {{1, 3}, {0, 500}, {0, 2}};
        for (int setting = ANVILS; setting <= RULE; setting++) {
            int least = ranges[setting][0], most = ranges[setting][1];
            due("below the least of " + setting, x.setSetting(setting, least - 1), BAD_VALUE);
            due("above the most of " + setting, x.setSetting(setting, most + 1), BAD_VALUE);
            due("the most of " + setting, x.setSetting(setting, most), least);
            due("the least of " + setting, x.setSetting(setting, least), most);
        }

        says("Anvils are indexed from 0.");
        ForgeScheduler y = ForgeText.forge(TRIO + "set anvils 3;");
        row("whereIn(iron, 1)", 0, i -> y.whereIn(i, 1), 10, 11, 12);
        row("ironOnAnvil(anvil, 1)", 0, a -> y.ironOnAnvil(a, 1), 0, 1, 2);
        row("anvilMinutes", 0, y::anvilMinutes, 9, 5, 7);
        throwsIndex("anvilMinutes(3)", () -> y.anvilMinutes(3));
        throwsIndex("anvilMinutes(-1)", () -> y.anvilMinutes(-1));
    }

    private static void beginAndEnd() {
        says("The run begins with all irons on the rack at 20 degrees, with no work done, and lasts 480 minutes, numbered 0 to 479.");
        ForgeScheduler x = ForgeText.forge("iron a 1 1;iron b 1 1;step a 100 1;step b 1400 1;place 1 1500;set margin 0;");
        for (int iron = 0; iron < 2; iron++) {
            due("heatAfter(iron, 0)", x.heatAfter(iron, 0), 20);
            due("stepsAfter(iron, 0)", x.stepsAfter(iron, 0), 0);
        }
        due("b has no place in minute 0", x.whereIn(1, 0), 0);
        due("b gets one in minute 80", x.whereIn(1, 80), 1);
        row("heatAfter of b, by a degree to the end", 479, m -> x.heatAfter(1, m), 419, 420, BAD_VALUE);
        row("whereIn of b", 478, m -> x.whereIn(1, m), 1, 1, BAD_VALUE);
        due("minutes of both in the fire", x.fireMinutes(0) + x.fireMinutes(1), 480);
        ForgeScheduler cold = ForgeText.forge("iron a 1 1;iron b 1 1;step a 100 1;");
        due("no place: on the rack in minute 0", cold.whereIn(0, 0), 0);
        due("no place: on the rack all the time", cold.rackMinutes(0), 480);

        says("It is completed if all steps of all irons are done within these minutes.");
        due("finish() with a finished alone", x.finish(), NOT_FOUND);
        due("finishOf(0)", x.finishOf(0), 81);
        ForgeScheduler y = ForgeText.forge("iron a 1 1;step a 499 1;place 1 1500;set margin 0;");
        due("finish(): heated to the end of 478, worked in 479", y.finish(), 480);
        y.removeStep(0);
        y.addStep(0, 500, 1);
        due("finish(): it would be worked in 480", y.finish(), NOT_FOUND);
        ForgeScheduler z = ForgeText.forge("iron a 1 1;step a 100 1;step a 1400 1;place 100 500;set margin 0;");
        due("finish() with one step of two", z.finish(), NOT_FOUND);
        due("stepsAfter(0, 480)", z.stepsAfter(0, 480), 1);
        z.removeStep(0);
        due("finish() with one step of one", z.finish(), 2);
    }

    private static void finished() {
        says("An iron is finished if all its steps are done; it stays on the rack then.");
        String text = "iron a 1 1;iron b 1 99;step a 100 2;place 200 1000;place 200 1000;set margin 0;";
        ForgeScheduler x = ForgeText.forge(text);
        row("whereIn of a", 0, m -> x.whereIn(0, m), 1, 10, 10);
        for (int minute = 3; minute < 480; minute++) due("whereIn(0, " + minute + ")", x.whereIn(0, minute), 0);
        ForgeScheduler y = ForgeText.forge(text);
        for (int minute = 0; minute < 480; minute++) due("whereIn(1, " + minute + ") without steps", y.whereIn(1, minute), 0);
        row("finishedBy", 0, y::finishedBy, 1, 1, 1, 2);
        due("heats(1) without steps", y.heats(1), 0);

        says("The current step of an iron that is not finished is its first step that is not done.");
        ForgeScheduler z = ForgeText.forge("iron a 1 99;step a 500 1;step a 300 2;step a 100 1;place 500 1500;set margin 0;");
        row("heatAfter", 0, m -> z.heatAfter(0, m), 20, 520, 421, 322, 223, 124);
        row("stepsAfter", 0, m -> z.stepsAfter(0, m), 0, 0, 1, 1, 2, 3);
        row("whereIn: each step has a lower need", 0, m -> z.whereIn(0, m), 1, 10, 10, 10, 10, 0);
        due("coldStops(0)", z.coldStops(0), 0);
        ForgeScheduler w = ForgeText.forge("iron a 1 1;step a 100 1;step a 900 1;place 100 1000;set margin 0;");
        row("whereIn: the second step has a greater need", 0, m -> w.whereIn(0, m), 1, 10, 1);
    }

    private static void clearing() {
        says("(1) Each iron that is on an anvil is put on the rack if it is finished, or if its temperature is less than "
            + "the lowest temperature of its current step; the latter counts as a cold stop.");
        ForgeScheduler x = ForgeText.forge("iron a 1 10;step a 490 3;place 480 1500;set margin 0;");
        row("whereIn: 490 is enough, 480 is not", 0, m -> x.whereIn(0, m), 1, 10, 10, 1, 10, 0);
        due("coldStops(0)", x.coldStops(0), 1);
        x.removeStep(0);
        x.addStep(0, 491, 3);
        row("whereIn: 490 is not enough", 0, m -> x.whereIn(0, m), 1, 10, 1, 10, 10, 0);
        due("coldStops(0)", x.coldStops(0), 1);
        ForgeScheduler y = ForgeText.forge("iron a 1 99;step a 500 1;place 500 1500;set margin 0;");
        row("heatAfter: finished below the need", 1, m -> y.heatAfter(0, m), 520, 421, 322);
        row("whereIn", 1, m -> y.whereIn(0, m), 10, 0);
        due("coldStops(0) of an iron that is finished", y.coldStops(0), 0);
        ForgeScheduler z = ForgeText.forge("iron a 1 1;iron b 1 1;step a 100 2;step b 100 1;place 500 500;place 500 500;set margin 0;");
        row("ironOnAnvil: the next one in the same minute", 0, m -> z.ironOnAnvil(0, m), -1, 0, 0, 1, -1);
        ForgeScheduler two = ForgeText.forge("iron a 1 99;iron b 1 99;step a 500 2;step b 500 2;place 500 1500;place 500 1500;set margin 0;set anvils 2;");
        row("both are stopped in one minute", 0, two::coldStops, 1, 1);
        row("whereIn(iron, 2)", 0, i -> two.whereIn(i, 2), 1, 2);

        says("Otherwise it stays on its anvil.");
        ForgeScheduler w = ForgeText.forge("iron a 1 1;iron b 1 1;step a 100 1;step b 100 5;place 500 500;place 500 500;set margin 0;set anvils 2;");
        row("whereIn of a", 1, m -> w.whereIn(0, m), 10, 0, 0);
        row("whereIn of b, beside a free anvil", 1, m -> w.whereIn(1, m), 11, 11, 11, 11, 11, 0);
    }

    private static void anvils() {
        says("(2) As long as an anvil is free and some iron is ready, the anvil with the lowest index that is free gets a ready iron.");
        ForgeScheduler x = ForgeText.forge(TRIO + "set anvils 3;");
        row("all in one minute", 0, i -> x.whereIn(i, 1), 10, 11, 12);
        x.setSetting(ANVILS, 2);
        row("two in one minute", 0, i -> x.whereIn(i, 1), 10, 11, 3);
        due("the third follows the second", x.whereIn(2, 6), 11);
        ForgeScheduler y = ForgeText.forge("iron a 1 1;iron b 1 1;iron c 1 1;step a 100 1;step b 100 9;step c 100 1;"
            + "place 100 500;place 100 500;place 30 500;set margin 0;set anvils 3;");
        row("c comes in minute 3, with 0 and 2 free", 0, i -> y.whereIn(i, 3), 0, 11, 10);

        says("An iron is ready if it is not finished, not on an anvil, and its temperature is at least the lowest temperature "
            + "of its current step plus MARGIN.");
        ForgeScheduler z = ForgeText.forge("iron a 1 10;step a 450 3;place 480 1500;set anvils 2;");
        due("500 is 450 and 50", z.whereIn(0, 1), 10);
        row("whereIn: less than that is enough to stay", 1, m -> z.whereIn(0, m), 10, 10, 10, 0, 0);
        row("anvilMinutes: once is enough", 0, z::anvilMinutes, 3, 0);
        z.removeStep(0);
        z.addStep(0, 451, 3);
        row("500 is less than 451 and 50", 1, m -> z.whereIn(0, m), 1, 10);
        z.setSetting(MARGIN, 49);
        due("500 is 451 and 49", z.whereIn(0, 1), 10);
        z.setSetting(MARGIN, 0);
        due("500 is more than 451", z.whereIn(0, 1), 10);
        z.setSetting(MARGIN, 500);
        row("980 is less than 951, 1460 is more", 1, m -> z.whereIn(0, m), 1, 10);
        ForgeScheduler w = ForgeText.forge("iron a 1 1;step a 100 1;place 580 1500;set margin 500;");
        due("600 is 100 and 500", w.whereIn(0, 1), 10);
        due("579 more is less", w.setPlace(0, 579, 1500), true);
        due("599 is less than 100 and 500", w.whereIn(0, 1), 1);
        row("hot, but finished", 2, m -> w.whereIn(0, m), 10, 0, 0);
    }

    private static int worked(String text, int rule, int minute) {
        ForgeScheduler x = ForgeText.forge(text);
        x.setSetting(RULE, rule);
        return x.ironOnAnvil(0, minute);
    }

    private static int workedWithSwap(String text, int rule, int minute) {
        ForgeScheduler x = ForgeText.forge(text);
        x.setSetting(RULE, rule);
        x.swap(0, x.ironCount() - 1);
        return x.ironOnAnvil(0, minute);
    }

    private static void rules() {
        says("Of several ready irons, the RULE decides: with RULE 0 the iron that comes first in the order is taken; "
            + "with RULE 1 the hottest one, and with RULE 2 the one with the fewest minutes of work left in all its steps.");
        row("a is first, c hottest, b has least work", 0, rule -> worked(TRIO, rule, 1), 0, 2, 1);
        row("c is first, a hottest, b has least work", 0, rule -> workedWithSwap(TRIO, rule, 1), 2, 0, 1);
        String steps = "iron a 1 1;iron b 1 1;step a 100 1;step a 100 5;step b 100 3;place 500 500;place 500 500;set margin 0;";
        due("RULE 2 counts the steps to come", worked(steps, 2, 1), 1);
        String inStep = "iron a 1 50;iron b 1 1;step a 200 5;step b 100 4;place 300 1000;place 16 1000;set margin 0;";
        due("RULE 2: a has 2 of 5 minutes left in minute 5", worked(inStep, 2, 5), 0);
        String ofSteps = "iron a 1 1;iron b 1 1;step a 100 3;step a 900 2;step b 340 4;place 200 1000;place 40 1000;set margin 0;";
        due("RULE 2: a has one of two steps left in minute 8", worked(ofSteps, 2, 8), 0);

        says("Ties are broken by the order.");
        String equal = "iron a 1 1;iron b 1 1;step a 100 2;step b 100 1;step b 100 1;place 500 500;place 500 500;set margin 0;";
        for (int rule = 0; rule <= 2; rule++) {
            due("a is first, RULE " + rule, worked(equal, rule, 1), 0);
            due("b is first, RULE " + rule, workedWithSwap(equal, rule, 1), 1);
        }
    }

    private static void fire() {
        says("An iron that is put on an anvil leaves its fire place.");
        ForgeScheduler x = ForgeText.forge(PAIR);
        row("ironInPlace: b in the minute in which a leaves", 2, m -> x.ironInPlace(0, m), 0, 1, 1, 1, NOT_FOUND);
        row("whereIn of b", 5, m -> x.whereIn(1, m), 1, 10);

        says("(3) As long as a fire place is free and some iron waits, the free fire place with the lowest index gets "
            + "the waiting iron that comes first in the order.");
        ForgeScheduler y = ForgeText.forge(SIX_IRONS + "step a 500 1;step b 100 1;step c 100 1;step d 100 1;step e 500 1;step f 500 1;"
            + "place 10 500;place 100 500;place 10 500;set margin 0;");
        row("the first three in minute 0", 0, i -> y.whereIn(i, 0), 1, 2, 3, 0, 0, 0);
        y.swap(2, 4);
        row("with e before c and d: d takes the free place 1", 0, i -> y.whereIn(i, 1), 1, 10, 0, 2, 3, 0);
        y.swap(3, 4);
        row("with c before d: c takes it", 0, i -> y.whereIn(i, 1), 1, 10, 2, 0, 3, 0);
        ForgeScheduler z = ForgeText.forge("iron a 1 99;step a 500 5;place 500 1500;place 600 1500;place 700 1500;set margin 0;");
        row("the lowest of three", 0, m -> z.whereIn(0, m), 1, 10, 1, 10);

        says("An iron waits if it is not finished, is on the rack, and is not ready.");
        ForgeScheduler w = ForgeText.forge("iron a 1 99;iron b 1 1;step a 100 1;step b 500 1;place 100 500;place 100 500;set margin 0;");
        row("a is finished and cold", 0, m -> w.whereIn(0, m), 1, 10, 0, 0, 0);
        row("b is in place 1 and not moved to place 0", 0, m -> w.whereIn(1, m), 2, 2, 2, 2, 2, 10);
        due("heats(1)", w.heats(1), 1);
        due("heats(0)", w.heats(0), 1);

        says("An iron that is in a fire place stays there until it is put on an anvil.");
        ForgeScheduler v = ForgeText.forge("iron a 1 1;iron b 1 1;iron c 1 1;step a 100 5;step b 100 1;step c 100 1;place 500 600;place 500 600;set margin 0;");
        row("b is ready, and at the limit", 0, m -> v.whereIn(1, m), 2, 2, 2, 2, 2, 2, 10);
        row("heatAfter of b", 0, m -> v.heatAfter(1, m), 20, 520, 600, 600, 600, 600, 600, 599);
        ForgeScheduler u = ForgeText.forge("iron a 1 1;step a 500 1;place 480 499;place 2000 1500;set margin 0;");
        due("whereIn(0, 479): never hot enough there", u.whereIn(0, 479), 1);
        due("fireMinutes(0)", u.fireMinutes(0), 480);
        due("heats(0)", u.heats(0), 1);
    }

    private static void passing() {
        says("An iron on an anvil gets one minute of work in its current step; when these are as many as the step needs, the step is done.");
        ForgeScheduler x = ForgeText.forge("iron a 1 1;step a 100 2;step a 100 3;place 500 500;set margin 0;");
        row("stepsAfter", 0, m -> x.stepsAfter(0, m), 0, 0, 0, 1, 1, 1, 2);
        ForgeScheduler y = ForgeText.forge("iron a 1 1;step a 100 30;place 500 500;set margin 0;");
        row("stepsAfter", 30, m -> y.stepsAfter(0, m), 0, 1);
        ForgeScheduler z = ForgeText.forge("iron a 1 99;step a 500 5;place 500 1500;set margin 0;");
        row("stepsAfter, with a heat between the minutes of work", 5, m -> z.stepsAfter(0, m), 0, 0, 1);
        row("whereIn", 0, m -> z.whereIn(0, m), 1, 10, 1, 10, 10, 10, 10, 0);

        says("An iron in a fire place gets warmer by the rate of the place divided by the mass of the iron, rounded down, but not above "
            + "the limit of the place; if it is at the limit or above it, its temperature does not change.");
        row("2000 / 3", 0, m -> heatOf(3, 2000, 1500, m), 20, 686, 1352, 1500);
        row("8 / 9", 479, m -> heatOf(9, 8, 1500, m), 20, 20);
        row("9 / 9", 0, m -> heatOf(9, 9, 1500, m), 20, 21, 22);
        row("17 / 9", 0, m -> heatOf(9, 17, 1500, m), 20, 21, 22);
        row("18 / 9", 0, m -> heatOf(9, 18, 1500, m), 20, 22, 24);
        row("480 / 1, exactly to the limit", 0, m -> heatOf(1, 480, 500, m), 20, 500, 500, 500);
        row("479 / 1, a degree below it", 0, m -> heatOf(1, 479, 500, m), 20, 499, 500, 500);
        row("481 / 1, a degree above it", 0, m -> heatOf(1, 481, 500, m), 20, 500, 500, 500);
        ForgeScheduler w = ForgeText.forge("iron a 1 10;iron b 1 1;iron c 1 1;step a 900 1;step a 1200 1;step b 500 1;step c 1400 1;"
            + "place 1000 1500;place 1000 500;set margin 0;");
        row("whereIn of a", 0, m -> w.whereIn(0, m), 1, 10, 2, 2, 2);
        row("heatAfter of a, above the limit of place 1", 0, m -> w.heatAfter(0, m), 20, 1020, 1010, 1010, 1010, 1010);
        due("heatAfter(0, 480)", w.heatAfter(0, 480), 1010);

        says("All other irons, also those on anvils, get colder by their cooling, but not below 20 degrees.");
        row("cooling 99", 0, m -> heatWithCooling(99, m), 20, 100, 20, 20);
        row("cooling 81", 0, m -> heatWithCooling(81, m), 20, 100, 20, 20);
        row("cooling 80", 0, m -> heatWithCooling(80, m), 20, 100, 20, 20);
        row("cooling 79", 0, m -> heatWithCooling(79, m), 20, 100, 21, 20, 20);
        row("cooling 1", 0, m -> heatWithCooling(1, m), 20, 100, 99, 98);
        row("cooling 1", 80, m -> heatWithCooling(1, m), 21, 20, 20);
        ForgeScheduler v = ForgeText.forge("iron a 1 10;iron b 1 1;step a 400 1;step a 900 1;step b 1400 1;place 500 1500;set margin 0;");
        row("whereIn of a, two minutes on the rack", 0, m -> v.whereIn(0, m), 1, 10, 0, 0, 1, 10, 0);
        row("heatAfter of a", 0, m -> v.heatAfter(0, m), 20, 520, 510, 500, 490, 990, 980, 970);
        ForgeScheduler u = ForgeText.forge("iron a 1 1;step a 100 1;");
        due("heatAfter(0, 480) without a fire place", u.heatAfter(0, 480), 20);
    }

    /** Heated by a place without ever being hot enough for the anvil. */
    private static int heatOf(int mass, int rate, int limit, int minute) {
        return ForgeText.forge("iron a " + mass + " 1;step a 1400 1;place " + rate + " " + limit + ";set margin 500;").heatAfter(0, minute);
    }

    /** 100 degrees after minute 0, worked in minute 1, on the rack from then on. */
    private static int heatWithCooling(int cooling, int minute) {
        return ForgeText.forge("iron a 1 " + cooling + ";step a 100 1;place 100 100;set margin 0;").heatAfter(0, minute);
    }

    private static void consequences() {
        says("So an iron that has done a step stays on its anvil if it is hot enough for its next step.");
        ForgeScheduler x = ForgeText.forge("iron a 1 10;step a 900 1;step a 1010 1;place 1000 1500;");
        row("1010 is enough, without the MARGIN", 0, m -> x.whereIn(0, m), 1, 10, 10, 0);
        x.removeStep(0);
        x.addStep(0, 1011, 1);
        row("1010 is not enough for 1011", 0, m -> x.whereIn(0, m), 1, 10, 1, 10, 0);

        says("An iron that is ready, but on the rack without a free anvil, stays on the rack until it is not ready any more.");
        // An iron leaves the anvil only when it is too cold, and gets no hotter on the rack: no run has such an iron.
        neverReadyOnRack(TRIO + "step a 400 2;step b 300 2;step c 800 1;", 50);
        neverReadyOnRack("iron a 1 99;iron b 1 30;step a 300 4;step b 300 9;step a 500 2;step b 100 3;place 150 900;set margin 0;", 50);
        neverReadyOnRack("iron a 1 99;iron b 1 30;step a 300 4;step b 300 9;step a 500 2;step b 100 3;place 250 900;place 99 500;", 50);

        says("The run goes on to the end of minute 479, also when all irons are finished.");
        ForgeScheduler y = ForgeText.forge("iron a 1 1;step a 100 1;place 2000 1500;");
        due("finish()", y.finish(), 2);
        row("heatAfter", 0, m -> y.heatAfter(0, m), 20, 1500, 1499, 1498);
        row("heatAfter at the end", 479, m -> y.heatAfter(0, m), 1022, 1021);
        due("whereIn(0, 479)", y.whereIn(0, 479), 0);
        due("stepsAfter(0, 480)", y.stepsAfter(0, 480), 1);
        due("finishedBy(480)", y.finishedBy(480), 1);
    }

    private static void neverReadyOnRack(String text, int minutes) {
        for (int iron = 0; iron < 2; iron++) {
            ForgeScheduler x = ForgeText.forge(text);
            int ready = 0;
            for (int minute = 0; minute < minutes; minute++) {
                int done = x.stepsAfter(iron, minute);
                if (done == x.stepCount(iron) || x.whereIn(iron, minute) != 0) continue;
                if (x.heatAfter(iron, minute) >= x.stepHeat(iron, done) + x.getSetting(MARGIN)) ready++;
            }
            due("minutes in which iron " + iron + " is ready on the rack", ready, 0);
        }
    }

    private static void bestOrder() {
        String heated = "iron a 1 1;iron b 1 1;iron c 1 1;step a 100 10;step b 100 11;step c 100 12;place 100 500;set margin 0;set anvils 3;";
        says("Each order of the irons is tried with the present settings.");
        ForgeScheduler x = ForgeText.forge(heated);
        due("finish() of a, b, c: 11, 13 and 15", x.finish(), 15);
        due("bestFinish() of c, b, a: 13 each", x.bestFinish(), 13);
        row("bestIronAt: the last of all orders", 0, x::bestIronAt, 2, 1, 0);
        due("bestOrders()", x.bestOrders(), 1);
        x.setSetting(ANVILS, 1);
        due("bestFinish() with one anvil: 33 minutes without a gap", x.bestFinish(), 34);
        due("bestOrders() with one anvil", x.bestOrders(), 6);
        row("bestIronAt with one anvil", 0, x::bestIronAt, 0, 1, 2);
        x.setSetting(MARGIN, 421);
        due("bestFinish() with a MARGIN above the limit", x.bestFinish(), NOT_FOUND);
        due("bestOrders() of six irons without work", ForgeText.forge(SIX_IRONS).bestOrders(), 720);

        says("The best order is the one with which all irons are finished first, among those with which the run is completed; "
            + "ties are broken by lexicographic order of the sequences of indices.");
        ForgeScheduler y = ForgeText.forge("iron a 1 1;iron b 1 1;step a 1000 1;step b 200 1;place 500 300;place 500 1500;set margin 0;");
        due("finish() of a, b: place 0 is too cold for a", y.finish(), NOT_FOUND);
        due("bestFinish() of b, a", y.bestFinish(), 3);
        row("bestIronAt", 0, y::bestIronAt, 1, 0);
        due("bestOrders()", y.bestOrders(), 1);
        ForgeScheduler z = ForgeText.forge("iron a 1 1;iron b 1 1;iron c 1 1;step a 100 10;step b 100 10;step c 100 12;place 100 500;set margin 0;set anvils 3;");
        due("bestFinish() with c first", z.bestFinish(), 13);
        row("bestIronAt: a before b", 0, z::bestIronAt, 2, 0, 1);
        due("bestOrders()", z.bestOrders(), 2);
        z.swap(0, 2);
        row("bestIronAt does not depend on the present order", 0, z::bestIronAt, 2, 0, 1);

        says("Without irons, the empty order is the best one, with 0 minutes.");
        ForgeScheduler w = ForgeText.forge("place 100 500;set anvils 2;");
        due("bestFinish()", w.bestFinish(), 0);
        due("bestOrders()", w.bestOrders(), 1);
        due("useBestOrder()", w.useBestOrder(), 0);
        throwsIndex("bestIronAt(0)", () -> w.bestIronAt(0));
    }

    private static void changes() {
        says("The methods setSetting, swap, useBestOrder, setPlace, addStep and removeStep make changes.");
        ForgeScheduler x = ForgeText.forge(PAIR);
        x.setSetting(MARGIN, 10);
        due("setSetting", x.undoCount(), 1);
        x.swap(0, 1);
        due("swap", x.undoCount(), 2);
        x.useBestOrder();
        due("useBestOrder", x.undoCount(), 3);
        x.setPlace(0, 300, 1000);
        due("setPlace", x.undoCount(), 4);
        x.addStep(0, 300, 1);
        due("addStep", x.undoCount(), 5);
        x.removeStep(0);
        due("removeStep", x.undoCount(), 6);
        askAll(x);
        due("questions", x.undoCount(), 6);
        x.undo();
        due("undo", x.undoCount(), 5);

        says("A change can be undone; the forge is then as before it.");
        undone("setSetting ANVILS", f -> f.setSetting(ANVILS, 2));
        undone("setSetting MARGIN", f -> f.setSetting(MARGIN, 321));
        undone("setSetting RULE", f -> f.setSetting(RULE, 2));
        undone("swap", f -> f.swap(0, 1));
        undone("useBestOrder", ForgeScheduler::useBestOrder);
        undone("setPlace", f -> f.setPlace(0, 1234, 567));
        undone("addStep", f -> f.addStep(1, 345, 6));
        undone("removeStep", f -> f.removeStep(0));
        undone("removeStep of an only step", f -> f.removeStep(1));
        undone("removeStep and addStep", f -> { f.removeStep(0); f.addStep(0, 999, 29); });
        undone("six changes", f -> { f.swap(0, 1); f.setPlace(0, 1, 100); f.removeStep(0); f.addStep(1, 345, 6); f.setSetting(RULE, 1); f.swap(1, 1); });

        says("At most the 12 latest changes are kept.");
        ForgeScheduler y = new ForgeScheduler();
        for (int margin = 1; margin <= 20; margin++) {
            y.setSetting(MARGIN, margin);
            due("undoCount() after " + margin, y.undoCount(), Math.min(margin, 12));
        }
        for (int left = 11; left >= 8; left--) due("undo()", y.undo(), left);
        due("getSetting(MARGIN)", y.getSetting(MARGIN), 16);
        for (int margin = 101; margin <= 106; margin++) y.setSetting(MARGIN, margin);
        due("undoCount() with eight and six changes", y.undoCount(), 12);
        int[] before = {105, 104, 103, 102, 101, 16, 15, 14, 13, 12, 11, 10};
        for (int i = 0; i < 12; i++) {
            due("undo()", y.undo(), 11 - i);
            due("getSetting(MARGIN)", y.getSetting(MARGIN), before[i]);
        }
        due("undo() of a change that is not kept", y.undo(), NOT_FOUND);
        due("getSetting(MARGIN)", y.getSetting(MARGIN), 10);
    }

    private static void askAll(ForgeScheduler x) {
        state(x);
        x.feed(0, 0, 0, 0, 0);
        x.load(20);
        x.load(99);
        x.ironNamed(0);
        x.finishWithSwap(0, 1);
        x.finishWithMargin(300);
        x.bestMargin();
        x.finishWithoutPlace(0);
        x.finishWithoutIron(0);
        x.finishAlone(0);
        x.finishWithAnvils(3);
        x.bestRule();
        x.finishWithRate(0, 999);
        x.leastRate(0);
        x.criticalIrons();
        x.idleMinutes();
    }

    private static void undone(String call, Consumer<ForgeScheduler> change) {
        String text = "iron a 1 10;iron b 2 20;step a 500 2;step a 700 1;step b 300 1;place 200 1000;set margin 0;";
        ForgeScheduler x = ForgeText.forge(text);
        x.swap(0, 1);
        String before = state(x);
        change.accept(x);
        due(call + " makes a difference", state(x).equals(before), false);
        for (int left = x.undoCount(); left > 1; left--) due("undo() of " + call, x.undo(), left - 1);
        due("the forge after undo() of " + call, state(x), before);
        due("undo() of the swap before it", x.undo(), 0);
        due("the forge as it was loaded", state(x), state(ForgeText.forge(text)));
    }

    private static void refusals() {
        says("A call that returns an error code or throws an exception changes nothing, except where its description says otherwise.");
        refused("setSetting(ANVILS, 4)", x -> due("answer", x.setSetting(ANVILS, 4), BAD_VALUE));
        refused("setSetting(MARGIN, -1)", x -> due("answer", x.setSetting(MARGIN, -1), BAD_VALUE));
        refused("setSetting(3, 1)", x -> due("answer", x.setSetting(3, 1), BAD_VALUE));
        refused("swap(0, 2)", x -> due("answer", x.swap(0, 2), false));
        refused("swap(-1, 1)", x -> due("answer", x.swap(-1, 1), false));
        refused("setPlace(1, 300, 900)", x -> due("answer", x.setPlace(1, 300, 900), false));
        refused("setPlace(0, 0, 900)", x -> due("answer", x.setPlace(0, 0, 900), false));
        refused("setPlace(0, 300, 1501)", x -> due("answer", x.setPlace(0, 300, 1501), false));
        refused("addStep(2, 300, 1)", x -> due("answer", x.addStep(2, 300, 1), NOT_FOUND));
        refused("addStep(0, 99, 1)", x -> due("answer", x.addStep(0, 99, 1), BAD_VALUE));
        refused("addStep(0, 300, 31)", x -> due("answer", x.addStep(0, 300, 31), BAD_VALUE));
        refused("addStep(1, 300, 1) to five", x -> due("answer", x.addStep(1, 300, 1), FULL));
        refused("removeStep(2)", x -> due("answer", x.removeStep(2), NOT_FOUND));
        refused("load(21)", x -> due("answer", x.load(21), BAD_VALUE));
        refused("a text with an error", x -> due("answer", ForgeText.load(x, "iron c 1 1;place 5 500;set rule 1;set rule 1;"), DUPLICATE));
        refused("mass(2)", x -> throwsIndex("mass(2)", () -> x.mass(2)));
        refused("finishWithSwap(0, 2)", x -> throwsIndex("finishWithSwap", () -> x.finishWithSwap(0, 2)));
        refused("finishWithSwap(2, 0)", x -> throwsIndex("finishWithSwap", () -> x.finishWithSwap(2, 0)));
        refused("finishWithoutPlace(1)", x -> throwsIndex("finishWithoutPlace", () -> x.finishWithoutPlace(1)));
        refused("finishWithRate(0, 0)", x -> due("answer", x.finishWithRate(0, 0), BAD_VALUE));
        refused("finishWithMargin(501)", x -> due("answer", x.finishWithMargin(501), BAD_VALUE));
        refused("finishWithAnvils(0)", x -> due("answer", x.finishWithAnvils(0), BAD_VALUE));
        ForgeScheduler cold = ForgeText.forge("iron a 1 1;step a 500 1;place 100 400;");
        String before = state(cold);
        due("useBestOrder() without a completed run", cold.useBestOrder(), NOT_FOUND);
        due("undo() of nothing", cold.undo(), NOT_FOUND);
        due("removeStep(1)", cold.removeStep(1), NOT_FOUND);
        due("the forge after them", state(cold), before);
    }

    /** A refused call leaves the forge, and what undo brings back, as they are. */
    private static void refused(String call, Consumer<ForgeScheduler> refusal) {
        ForgeScheduler x = ForgeText.forge("iron a 1 10;iron b 2 20;step a 500 2;" + "step b 300 1;".repeat(5) + "place 200 1000;set margin 0;");
        x.addStep(0, 600, 2);
        x.swap(0, 1);
        String before = state(x);
        refusal.accept(x);
        due("the forge after " + call, state(x), before);
        due("undo() after " + call, x.undo(), 1);
        due("orderCode()", x.orderCode(), 17);
        due("undo() again", x.undo(), 0);
        due("stepCount(0)", x.stepCount(0), 1);
    }

    private static void tokens() {
        says("Tokens are words (maximal runs of the letters a to z), integers (maximal runs of decimal digits, read as unsigned numbers "
            + "of any length), and the character ';'.");
        loads("iron az1 2;", 1, NOT_FOUND);
        loads("place1 100;set rule2;", 2, NOT_FOUND);
        loads("irona 1 1;", SYNTAX, 0);
        loads("iron a 12;", RANGE, 7);
        loads("iron a 1 1;;", SYNTAX, 11);
        loads("iron a 1;1;", SYNTAX, 8);
        loads("iron a +1 1;", SYNTAX, 7);
        loads("iron a -1 1;", SYNTAX, 7);
        loads("iron a 1 1.0;", SYNTAX, 10);
        loads("iron a 007 0099;", 1, NOT_FOUND);
        loads("iron a " + "0".repeat(800) + "7 1;", 1, NOT_FOUND);
        loads("iron a " + "0".repeat(800) + " 1;", RANGE, 7);
        loads("iron a 1" + "0".repeat(800) + " 1;", RANGE, 7);
        for (String wrapped : new String[] {"257", "65537", "2147483649", "4294967297", "18446744073709551617", "340282366920938463463374607431768211457"}) {
            loads("iron a " + wrapped + " 1;", RANGE, 7);
            loads("place 1 100;set margin " + wrapped + "0;", RANGE, 23);
        }

        says("Spaces (32) and newlines (10) may stand between tokens.");
        loads("  \n\n iron\na  1\n \n1 ;\n", 1, NOT_FOUND);
        loads(" ", 0, NOT_FOUND);
        loads("\n", 0, NOT_FOUND);
        loads("iron a1 1;place1 100;", 2, NOT_FOUND);
        loads("ir on a 1 1;", SYNTAX, 0);
        loads("iron a 1\t1;", SYNTAX, 8);
        loads("iron a 1 1;\r\n", SYNTAX, 11);

        says("Any other character is a token that is never allowed.");
        for (int sign = 0; sign < 256; sign++) {
            boolean blank = sign == ' ' || sign == '\n';
            boolean digit = sign >= '0' && sign <= '9';
            loads("iron a 1" + (char) sign + "1;", blank ? 1 : digit ? RANGE : SYNTAX, blank ? NOT_FOUND : digit ? 7 : 8);
            loads("place 1 100;" + (char) sign, blank ? 1 : SYNTAX, blank ? NOT_FOUND : 12);
        }
    }

    private static void grammar() {
        says("text      = { statement \";\" }");
        loads("", 0, NOT_FOUND);
        loads("place 1 100;", 1, NOT_FOUND);
        loads("place 1 100", SYNTAX, 11);
        loads("place 1 100 place 1 100;", SYNTAX, 12);
        loads(";", SYNTAX, 0);
        loads("place 1 100;place 1 100;place 1 100;set rule 1;set anvils 1;set margin 1;iron a 1 1;", 7, NOT_FOUND);

        says("statement = \"iron\" name mass cooling | \"step\" name heat minutes | \"place\" rate limit | \"set\" setting integer");
        replaced("", "iron", "b", "1", "1", ";");
        replaced("iron a 1 1;", "step", "a", "100", "1", ";");
        replaced("", "place", "1", "100", ";");
        replaced("place 1 100;\n", "set", "rule", "1", ";");

        says("setting   = \"anvils\" | \"margin\" | \"rule\"");
        loads("set anvils 2;set margin 2;set rule 2;", 3, NOT_FOUND);
        for (String word : new String[] {"anvil", "anvilss", "margins", "margi", "rules", "rul", "a", "iron", "set"}) {
            loads("set " + word + " 1;", SYNTAX, 4);
        }
    }

    /** Puts a token of each other kind, or the end of the text, at each place of a statement. */
    private static void replaced(String before, String... tokens) {
        StringBuilder text = new StringBuilder(before);
        for (String token : tokens) {
            for (String other : new String[] {"zz", "7", ";", "!", "iron"}) {
                boolean allowed = token.equals(tokens[0]) ? other.equals("iron") : token.matches("[ab]") ? other.equals("zz")
                    : token.matches("[0-9]+") ? other.equals("7") : token.equals(other);
                if (!allowed) loads(text + other, SYNTAX, text.length());
            }
            if (!token.equals(tokens[0])) loads(text.toString(), SYNTAX, text.length());
            text.append(token).append(' ');
        }
        loads(text.toString(), before.isEmpty() ? 1 : 2, NOT_FOUND);
    }

    private static void names() {
        says("A name is a word of 1 to 6 letters other than iron, step, place, set, anvils, margin and rule.");
        for (String name : new String[] {"a", "z", "az", "abc", "abcd", "abcde", "abcdef", "zzzzzz", "irons", "iro", "stepp", "places", "sets", "anvil", "margi", "rules"}) {
            ForgeScheduler x = new ForgeScheduler();
            due("load with the name " + name, ForgeText.load(x, "iron " + name + " 1 1;step " + name + " 100 1;"), 2);
            due("ironNamed of " + name, x.ironNamed(ForgeText.letters(name)), 0);
        }
        for (String word : new String[] {"abcdefg", "zzzzzzz", "irononiron", "iron", "step", "place", "set", "anvils", "margin", "rule"}) {
            loads("iron " + word + " 1 1;", SYNTAX, 5);
            loads("step " + word + " 100 1;", SYNTAX, 5);
        }
        loads("iron A 1 1;", SYNTAX, 5);
        loads("iron 1 1 1;", SYNTAX, 5);

        says("The statement iron declares an iron, step adds a step to a declared iron, place adds a fire place, and set gives a setting.");
        ForgeScheduler x = ForgeText.forge("iron a 2 3;step a 400 5;iron b 4 5;place 6 700;step b 800 9;step a 1000 11;set rule 1;");
        due("ironCount()", x.ironCount(), 2);
        due("stepCount(0)", x.stepCount(0), 2);
        row("stepHeat", 0, s -> x.stepHeat(0, s), 400, 1000);
        row("stepMinutes", 0, s -> x.stepMinutes(0, s), 5, 11);
        due("stepHeat(1, 0)", x.stepHeat(1, 0), 800);
        due("stepMinutes(1, 0)", x.stepMinutes(1, 0), 9);
        due("mass(1)", x.mass(1), 4);
        due("cooling(0)", x.cooling(0), 3);
        due("placeRate(0)", x.placeRate(0), 6);
        due("placeLimit(0)", x.placeLimit(0), 700);
        due("getSetting(RULE)", x.getSetting(RULE), 1);
    }

    private static void errors() {
        says("The first error in the order of the text is reported, at the position of the first character of its token.");
        loads("iron a 1 1;iron a 0 0;place 0 0;x", DUPLICATE, 16);
        loads("iron a 99 0 x", RANGE, 7);
        loads("iron a 1 99999 x", RANGE, 9);
        loads("step a 0 0;", NAME, 5);
        loads("set rule 1 x;set rule 9;", SYNTAX, 11);
        loads("\n\n  iron\n\nabcdefghij 0 0;", SYNTAX, 10);
        loads(SIX_IRONS + "iron a 0 0;", COUNT, 66);
        loads(SIX_IRONS + "step f 0 0;iron a", RANGE, 73);

        says("If several errors apply to one token, the one listed first is reported.");
        loads("step iron 100 1;", SYNTAX, 5);
        loads("step abcdefg 100 1;", SYNTAX, 5);
        loads("iron 0 1 1;", SYNTAX, 5);
        loads("set 9999 1;", SYNTAX, 4);
        loads("iron a 1 1 0;", SYNTAX, 11);
        loads("iron a 1 1;" + "step a 100 1;".repeat(5) + "step b 100 1;", NAME, 81);
        loads(SIX_IRONS + "set iron 1;", SYNTAX, 70);
        loads(THREE_PLACES + "iron place 1 1;", SYNTAX, THREE_PLACES.length() + 5);
    }

    private static void errorsOfEachKind() {
        says("SYNTAX_ERROR: the token is not allowed here; if the text ends too early, the position is its length.");
        String text = "place 1 100 ;";
        int[] codes = {0, SYNTAX, SYNTAX, SYNTAX, SYNTAX, SYNTAX, SYNTAX, SYNTAX, SYNTAX, RANGE, RANGE, SYNTAX, SYNTAX, 1};
        int[] positions = {NOT_FOUND, 0, 0, 0, 0, 5, 6, 7, 8, 8, 8, 11, 12, NOT_FOUND};
        for (int length = 0; length <= text.length(); length++) {
            ForgeScheduler x = new ForgeScheduler();
            ForgeText.feed(x, text);
            due("load(" + length + ") of " + text, x.load(length), codes[length]);
            due("errorPosition()", x.errorPosition(), positions[length]);
        }
        loads("iron a 1   \n", SYNTAX, 12);
        loads(" ".repeat(891) + "iron a 1 ", SYNTAX, 900);

        says("RANGE_ERROR: an integer is outside its range.");
        edges("iron a ", " 1;", 1, 9);
        edges("iron a 1 ", ";", 1, 99);
        edges("iron a 1 1;step a ", " 1;", 100, 1400);
        edges("iron a 1 1;step a 100 ", ";", 1, 30);
        edges("place ", " 100;", 1, 2000);
        edges("place 1 ", ";", 100, 1500);
        edges("set anvils ", ";", 1, 3);
        edges("set margin ", ";", 0, 500);
        edges("set rule ", ";", 0, 2);

        says("NAME_ERROR: the name of a step statement is not that of a declared iron.");
        loads("step a 100 1;", NAME, 5);
        loads("iron ab 1 1;step a 100 1;", NAME, 17);
        loads("iron ab 1 1;step abc 100 1;", NAME, 17);
        loads("step a 100 1;iron a 1 1;", NAME, 5);
        loads("iron abcdef 1 1;step abcdee 100 1;", NAME, 21);
        loads("iron abcdef 1 1;step abcdef 100 1;", 2, NOT_FOUND);
        ForgeScheduler old = ForgeText.forge("iron a 1 1;");
        due("an iron of the forge before", ForgeText.load(old, "step a 100 1;"), NAME);

        says("DUPLICATE_ERROR: a name that is already declared; the name of a setting that was already given.");
        loads("iron a 1 1;iron a 2 2;", DUPLICATE, 16);
        loads("iron a 1 1;iron b 1 1;iron c 1 1;iron d 1 1;iron e 1 1;iron a 1 1;", DUPLICATE, 60);
        loads("iron a 1 1;iron aa 2 2;", 2, NOT_FOUND);
        loads("set anvils 1;set anvils 1;", DUPLICATE, 17);
        loads("set margin 50;set margin 50;", DUPLICATE, 18);
        loads("set rule 0;set rule 0;", DUPLICATE, 15);
        loads("set rule 0;set margin 0;set anvils 1;set rule 1;", DUPLICATE, 41);
        ForgeScheduler again = ForgeText.forge("iron a 1 1;set rule 1;");
        due("a name and a setting of the forge before", ForgeText.load(again, "iron a 1 1;set rule 1;"), 2);
        due("a name of a text with an error", ForgeText.load(again, "iron b 1 1;set margin 7;!"), SYNTAX);
        due("the same once more", ForgeText.load(again, "iron b 1 1;set margin 7;"), 2);

        says("COUNT_ERROR: the word iron of a seventh iron or place of a fourth fire place; the name in a sixth step statement for the same iron.");
        loads(SIX_IRONS, 6, NOT_FOUND);
        loads(SIX_IRONS + " iron", COUNT, 67);
        loads(SIX_IRONS + "iron g 1 1;", COUNT, 66);
        loads(THREE_PLACES, 3, NOT_FOUND);
        loads(THREE_PLACES + "place", COUNT, THREE_PLACES.length());
        loads(THREE_PLACES + "place 1 100;", COUNT, THREE_PLACES.length());
        String five = "iron a 1 1;iron b 1 1;" + "step b 100 1;".repeat(5);
        loads(five + "step a 100 1;", 8, NOT_FOUND);
        loads(five + "step b", COUNT, 92);
        loads(five + "step a 100 1;step b 100 1;", COUNT, 105);
    }

    /** The numbers of a range are taken, those beside it are not. */
    private static void edges(String before, String behind, int least, int most) {
        int statements = before.contains(";") ? 2 : 1;
        loads(before + least + behind, statements, NOT_FOUND);
        loads(before + most + behind, statements, NOT_FOUND);
        loads(before + (most + 1) + behind, RANGE, before.length());
        if (least > 0) loads(before + (least - 1) + behind, RANGE, before.length());
        loads(before + "0".repeat(30) + most + behind, statements, NOT_FOUND);
        loads(before + "9".repeat(30) + behind, RANGE, before.length());
    }

    private static void constants() {
        says("- `ANVILS = 0, MARGIN = 1, RULE = 2`: Settings.");
        ForgeScheduler x = ForgeText.forge("set anvils 3;set margin 7;set rule 2;");
        due("getSetting(ANVILS)", x.getSetting(ForgeScheduler.ANVILS), 3);
        due("getSetting(MARGIN)", x.getSetting(ForgeScheduler.MARGIN), 7);
        due("getSetting(RULE)", x.getSetting(ForgeScheduler.RULE), 2);
        row("getSetting", 0, x::getSetting, 3, 7, 2);
        says("- `RACK = 0`: Where an iron is: on the rack.");
        due("RACK", ForgeScheduler.RACK, 0);
        due("whereIn(0, 0)", ForgeText.forge("iron a 1 1;").whereIn(0, 0), ForgeScheduler.RACK);
        says("- `NOT_FOUND = -1`: Error code: there is no such thing.");
        due("NOT_FOUND", ForgeScheduler.NOT_FOUND, -1);
        says("- `BAD_VALUE = -2`: Error code: a parameter is out of range.");
        due("BAD_VALUE", ForgeScheduler.BAD_VALUE, -2);
        says("- `FULL = -3`: Error code: a limit is reached.");
        due("FULL", ForgeScheduler.FULL, -3);
        says("- `SYNTAX_ERROR = -11, RANGE_ERROR = -12, NAME_ERROR = -13, DUPLICATE_ERROR = -14, COUNT_ERROR = -15`: Error codes of load.");
        due("SYNTAX_ERROR", ForgeScheduler.SYNTAX_ERROR, -11);
        due("RANGE_ERROR", ForgeScheduler.RANGE_ERROR, -12);
        due("NAME_ERROR", ForgeScheduler.NAME_ERROR, -13);
        due("DUPLICATE_ERROR", ForgeScheduler.DUPLICATE_ERROR, -14);
        due("COUNT_ERROR", ForgeScheduler.COUNT_ERROR, -15);
    }
}

import java.util.function.IntSupplier;

/** Each promise of the document by its number, with answers worked out by hand. */
public final class PromisesTest {
    private static final int NOT_FOUND = -1, BAD_VALUE = -2, FULL = -3;
    private static final int LOW = Integer.MIN_VALUE, HIGH = Integer.MAX_VALUE;

    /** One place: a is heated in minutes 0 to 2 and worked in 3 and 4, b is heated in 3 to 5 and worked in 6. */
    private static final String PAIR = "iron a 1 10;iron b 2 20;step a 500 2;step b 300 1;place 200 1000;set margin 0;";
    /** Two places and one anvil: both are ready in minute 1; b has to be heated again for its second step. */
    private static final String RIVALS = "iron a 1 1;iron b 1 99;step a 200 10;step b 200 1;step b 600 1;"
        + "place 300 1000;place 300 500;set margin 0;";
    /** One iron that goes cold at once: 520, 421 (cold stop), 921, 822, 723, 624, 525. */
    private static final String COLD = "iron i 1 99;step i 500 5;place 500 1500;set margin 0;";

    private static final boolean[] tested = new boolean[59];
    private static int wrong = 0;
    private static int checks = 0;

    public static void main(String[] args) {
        newObject();
        feeding();
        loading();
        syntaxErrors();
        rangeErrors();
        otherErrors();
        description();
        order();
        run();
        minutes();
        limits();
        endOfRun();
        sixIrons();
        anvils();
        rules();
        margins();
        bestOrder();
        whatIf();
        changes();
        steps();
        undoing();
        wrongIndices();
        for (int promise = 1; promise <= 58; promise++) {
            if (!tested[promise]) {
                wrong++;
                System.out.println("promise " + promise + " has no test");
            }
        }
        System.out.println("PromisesTest: " + checks + " checks, " + wrong + " wrong");
        if (wrong != 0) System.exit(1);
    }

    private static void due(int promise, String call, int got, int want) {
        tested[promise] = true;
        checks++;
        if (got == want) return;
        wrong++;
        System.out.println("promise " + promise + ": " + call + " answered " + got + ", due is " + want);
    }

    private static void due(int promise, String call, boolean got, boolean want) {
        due(promise, call, got ? 1 : 0, want ? 1 : 0);
    }

    private static void throwsIndex(int promise, String call, IntSupplier supplier) {
        String thrown = "nothing";
        try {
            supplier.getAsInt();
        } catch (RuntimeException exception) {
            thrown = exception.getClass().getSimpleName();
        }
        tested[promise] = true;
        checks++;
        if (thrown.equals("IndexOutOfBoundsException")) return;
        wrong++;
        System.out.println("promise " + promise + ": " + call + " threw " + thrown + ", due is IndexOutOfBoundsException");
    }

    private static void newObject() {
        ForgeScheduler x = new ForgeScheduler();
        due(1, "ironCount()", x.ironCount(), 0);
        due(1, "placeCount()", x.placeCount(), 0);
        due(1, "undoCount()", x.undoCount(), 0);
        due(1, "errorPosition()", x.errorPosition(), NOT_FOUND);
        due(1, "getSetting(ANVILS)", x.getSetting(ForgeScheduler.ANVILS), 1);
        due(1, "getSetting(MARGIN)", x.getSetting(ForgeScheduler.MARGIN), 50);
        due(1, "getSetting(RULE)", x.getSetting(ForgeScheduler.RULE), 0);
        due(1, "undo()", x.undo(), NOT_FOUND);
        due(1, "load(1)", x.load(1), BAD_VALUE);
        due(1, "load(0)", x.load(0), 0);
        due(19, "finish() without irons", x.finish(), 0);
        due(30, "lastIron() without irons", x.lastIron(), NOT_FOUND);
        due(31, "bestFinish() without irons", x.bestFinish(), 0);
        due(33, "bestOrders() without irons", x.bestOrders(), 1);
        due(36, "bestMargin() without irons", x.bestMargin(), 0);
        due(40, "orderCode() without irons", x.orderCode(), 0);
        due(43, "useBestOrder() without irons", x.useBestOrder(), 0);
        due(43, "undoCount() after it", x.undoCount(), 1);
        due(52, "finishedBy(480) without irons", x.finishedBy(480), 0);
        due(53, "idleMinutes() without irons", x.idleMinutes(), 0);
        due(54, "finishWithAnvils(3) without irons", x.finishWithAnvils(3), 0);
        due(55, "bestRule() without irons", x.bestRule(), 0);
        due(58, "criticalIrons() without irons", x.criticalIrons(), 0);
    }

    private static void feeding() {
        ForgeScheduler x = new ForgeScheduler();
        for (int n = 1; n <= 45; n++) {
            due(2, "feed " + n, x.feed(0x20202020, 0x20202020, 0x20202020, 0x20202020, 0x20202020), 20 * n);
        }
        due(2, "feed 46", x.feed(0x21212121, 0, 0, 0, 0), FULL);
        due(2, "load(901) of 900 bytes", x.load(901), BAD_VALUE);
        due(2, "load(900) of blanks", x.load(900), 0);
        due(2, "feed after load", x.feed(0x706c6163, 0x65203120, 0x3130303b, 0x70808182, 0xff000000), 20);
        due(2, "load(12): place 1 100;", x.load(12), 1);
        due(2, "placeRate(0)", x.placeRate(0), 1);
        due(2, "placeLimit(0)", x.placeLimit(0), 100);
        ForgeText.feed(x, "iron a 1 1;");
        ForgeText.feed(x, "iron b 1 1;");
        due(2, "the second feed stands behind the first", x.load(31), 2);
    }

    private static void loading() {
        ForgeScheduler x = new ForgeScheduler();
        due(3, "six statements", ForgeText.load(x, PAIR), 6);
        due(3, "ironCount()", x.ironCount(), 2);
        due(3, "getSetting(MARGIN)", x.getSetting(1), 0);
        due(3, "the buffer is empty", x.load(1), BAD_VALUE);
        due(4, "errorPosition() after success and BAD_VALUE", x.errorPosition(), NOT_FOUND);
        x.swap(0, 1);
        ForgeText.feed(x, "iron c 1 1;;");
        due(3, "load(-1)", x.load(-1), BAD_VALUE);
        due(3, "load(LOW)", x.load(LOW), BAD_VALUE);
        due(3, "load(21) of 20 bytes", x.load(21), BAD_VALUE);
        due(4, "errorPosition() is not touched by BAD_VALUE", x.errorPosition(), NOT_FOUND);
        due(3, "an empty statement", x.load(12), ForgeScheduler.SYNTAX_ERROR);
        due(4, "errorPosition()", x.errorPosition(), 11);
        due(3, "the buffer is empty after an error", x.load(1), BAD_VALUE);
        due(4, "errorPosition() is still there", x.errorPosition(), 11);
        due(3, "ironCount() after an error", x.ironCount(), 2);
        due(3, "undoCount() after an error", x.undoCount(), 1);
        due(3, "orderCode() after an error", x.orderCode(), 10);
        due(3, "a number without blanks, zeros before it, newlines", ForgeText.load(x, "iron abcdef9 0000000000099\n;\nset rule2;place 1 100;"), 3);
        due(4, "errorPosition() after success", x.errorPosition(), NOT_FOUND);
        due(3, "undoCount() after success", x.undoCount(), 0);
        due(3, "ironCount() after success", x.ironCount(), 1);
        due(3, "cooling(0)", x.cooling(0), 99);
        due(3, "getSetting(MARGIN) is initial again", x.getSetting(1), 50);
        due(3, "getSetting(RULE)", x.getSetting(2), 2);
        due(3, "orderCode() is initial again", x.orderCode(), 1);
        due(3, "load(0)", x.load(0), 0);
        due(3, "an empty forge", x.ironCount() + x.placeCount() + x.getSetting(2), 0);
    }

    private static void error(String text, int code, int position) {
        ForgeScheduler x = new ForgeScheduler();
        due(3, "load of " + text, ForgeText.load(x, text), code);
        due(4, "errorPosition() of " + text, x.errorPosition(), position);
        due(3, "ironCount() after " + text, x.ironCount(), 0);
    }

    private static void syntaxErrors() {
        int code = ForgeScheduler.SYNTAX_ERROR;
        error("x", code, 0);
        error("  \n;", code, 3);
        error("7", code, 0);
        error("iron", code, 4);
        error("iron a 1  ", code, 10);
        error("iron a 1 1", code, 10);
        error("iron a 1 1 \n", code, 12);
        error("iron a 1 1 1;", code, 11);
        error("iron a1b", code, 7);
        error("iron a -1 1;", code, 7);
        error("iron abcdefg 1 1;", code, 5);
        error("iron A 1 1;", code, 5);
        error("iron\ta 1 1;", code, 4);
        error("iron \u00e9 1 1;", code, 5);
        error("irons a 1 1;", code, 0);
        error("iron ; 1 1;", code, 5);
        for (String word : new String[] {"iron", "step", "place", "set", "anvils", "margin", "rule"}) {
            error("iron " + word + " 1 1;", code, 5);
            error("step " + word + " 100 1;", code, 5);
        }
        error("place 1 x;", code, 8);
        error("place;", code, 5);
        error("set a 1;", code, 4);
        error("set 1 1;", code, 4);
        error("set anvil 1;", code, 4);
        error("set rule x;", code, 9);
        error("set iron 1;", code, 4);
        error("anvils 1;", code, 0);
        error("set rule 1 margin 1;", code, 11);
        error("place 1 100;\0", code, 12);
    }

    private static void rangeErrors() {
        int code = ForgeScheduler.RANGE_ERROR;
        error("iron a 0", code, 7);
        error("iron a 10 x", code, 7);
        error("iron a 1 0;", code, 9);
        error("iron a 1 100;", code, 9);
        error("iron a 4294967297 1;", code, 7);
        error("iron a 18446744073709551617 1;", code, 7);
        error("iron a 1 1;step a 99 1;", code, 18);
        error("iron a 1 1;step a 1401 1;", code, 18);
        error("iron a 1 1;step a 100 0;", code, 22);
        error("iron a 1 1;step a 100 31;", code, 22);
        error("place 0 100;", code, 6);
        error("place 2001 100;", code, 6);
        error("place 1 99;", code, 8);
        error("place 1 1501;", code, 8);
        error("set anvils 0;", code, 11);
        error("set anvils 4;", code, 11);
        error("set margin 501;", code, 11);
        error("set rule 3;", code, 9);
        ForgeScheduler x = ForgeText.forge("iron a 9 99;step a 1400 30;iron b 1 1;step b 100 1;place 2000 1500;place 1 100;"
            + "set anvils 3;set margin 500;set rule 2;");
        due(3, "the greatest values are allowed", x.stepHeat(0, 0) + x.stepMinutes(0, 0), 1430);
    }

    private static void otherErrors() {
        error("step a 100 1;", ForgeScheduler.NAME_ERROR, 5);
        error("iron ab 1 1;step a 0 0", ForgeScheduler.NAME_ERROR, 17);
        error("iron a 1 1;iron a", ForgeScheduler.DUPLICATE_ERROR, 16);
        error("set rule 1;set rule 9", ForgeScheduler.DUPLICATE_ERROR, 15);
        error("set margin 1;set rule 1;set anvils 1;set margin 1;", ForgeScheduler.DUPLICATE_ERROR, 41);
        String six = "iron a 1 1;iron b 1 1;iron c 1 1;iron d 1 1;iron e 1 1;iron f 1 1;";
        error(six + "iron a", ForgeScheduler.COUNT_ERROR, 66);
        error(six + "iron", ForgeScheduler.COUNT_ERROR, 66);
        String three = "place 1 100;place 1 100;place 1 100;";
        error(three + " place", ForgeScheduler.COUNT_ERROR, 37);
        String five = "iron a 1 1;" + "step a 100 1;".repeat(5);
        error(five + "step a 0", ForgeScheduler.COUNT_ERROR, 81);
        error(five + "step b 0", ForgeScheduler.NAME_ERROR, 81);
        ForgeScheduler x = ForgeText.forge(six + three + "step f 100 1;".repeat(5));
        due(5, "six irons", x.ironCount(), 6);
        due(6, "three places", x.placeCount(), 3);
        due(11, "five steps", x.stepCount(5), 5);
    }

    private static void description() {
        ForgeScheduler x = ForgeText.forge("iron zange 3 7;iron abcdef 9 99;step abcdef 700 30;step abcdef 1400 1;place 2000 100;place 1 1500;set anvils 2;");
        due(5, "ironCount()", x.ironCount(), 2);
        due(6, "placeCount()", x.placeCount(), 2);
        due(8, "ironNamed(zange)", x.ironNamed(ForgeText.letters("zange")), 0);
        due(8, "ironNamed(abcdef)", x.ironNamed(ForgeText.letters("abcdef")), 1);
        due(8, "ironNamed(abcdef) as a number", x.ironNamed(1 << 25 | 2 << 20 | 3 << 15 | 4 << 10 | 5 << 5 | 6), 1);
        due(8, "ironNamed(abcde)", x.ironNamed(ForgeText.letters("abcde")), NOT_FOUND);
        due(8, "ironNamed with a bit above", x.ironNamed(ForgeText.letters("zange") | 1 << 30), NOT_FOUND);
        due(8, "ironNamed(0)", x.ironNamed(0), NOT_FOUND);
        due(8, "ironNamed(-1)", x.ironNamed(-1), NOT_FOUND);
        due(9, "mass(0)", x.mass(0), 3);
        due(9, "mass(1)", x.mass(1), 9);
        due(10, "cooling(0)", x.cooling(0), 7);
        due(10, "cooling(1)", x.cooling(1), 99);
        due(11, "stepCount(0)", x.stepCount(0), 0);
        due(11, "stepCount(1)", x.stepCount(1), 2);
        due(12, "stepHeat(1, 0)", x.stepHeat(1, 0), 700);
        due(12, "stepHeat(1, 1)", x.stepHeat(1, 1), 1400);
        due(13, "stepMinutes(1, 0)", x.stepMinutes(1, 0), 30);
        due(13, "stepMinutes(1, 1)", x.stepMinutes(1, 1), 1);
        due(14, "placeRate(0)", x.placeRate(0), 2000);
        due(14, "placeRate(1)", x.placeRate(1), 1);
        due(15, "placeLimit(0)", x.placeLimit(0), 100);
        due(15, "placeLimit(1)", x.placeLimit(1), 1500);
        due(16, "getSetting(ANVILS)", x.getSetting(0), 2);
        due(16, "getSetting(MARGIN)", x.getSetting(1), 50);
        due(16, "getSetting(3)", x.getSetting(3), BAD_VALUE);
        due(16, "getSetting(-1)", x.getSetting(-1), BAD_VALUE);
    }

    private static void order() {
        ForgeScheduler x = ForgeText.forge("iron a 1 1;iron b 1 1;iron c 1 1;iron d 1 1;iron e 1 1;iron f 1 1;");
        due(17, "ironAt(5)", x.ironAt(5), 5);
        due(40, "orderCode()", x.orderCode(), 1 | 2 << 3 | 3 << 6 | 4 << 9 | 5 << 12 | 6 << 15);
        due(42, "swap(0, 2)", x.swap(0, 2), true);
        due(42, "swap(2, 5)", x.swap(2, 5), true);
        due(17, "ironAt(0)", x.ironAt(0), 2);
        due(17, "ironAt(2)", x.ironAt(2), 5);
        due(17, "ironAt(5)", x.ironAt(5), 0);
        due(18, "positionOf(0)", x.positionOf(0), 5);
        due(18, "positionOf(2)", x.positionOf(2), 0);
        due(18, "positionOf(5)", x.positionOf(5), 2);
        due(40, "orderCode() after swaps", x.orderCode(), 3 | 2 << 3 | 6 << 6 | 4 << 9 | 5 << 12 | 1 << 15);
        due(42, "swap(0, 6)", x.swap(0, 6), false);
        due(42, "swap(-1, 0)", x.swap(-1, 0), false);
        due(42, "undoCount()", x.undoCount(), 2);
        due(42, "swap(3, 3)", x.swap(3, 3), true);
        due(42, "undoCount() after swap with itself", x.undoCount(), 3);
        due(19, "finish() without work", x.finish(), 0);
        due(20, "finishOf(3) without steps", x.finishOf(3), 0);
        due(30, "lastIron() without work", x.lastIron(), 0);
        due(31, "bestFinish() without work", x.bestFinish(), 0);
        due(32, "bestIronAt(5) without work", x.bestIronAt(5), 5);
        due(33, "bestOrders() without work", x.bestOrders(), 720);
        due(36, "bestMargin() without work", x.bestMargin(), 0);
        due(55, "bestRule() without work", x.bestRule(), 0);
        due(52, "finishedBy(0) without work", x.finishedBy(0), 6);
        due(48, "rackMinutes(0) without steps", x.rackMinutes(0), 0);
    }

    private static void run() {
        ForgeScheduler x = ForgeText.forge(PAIR);
        due(19, "finish()", x.finish(), 7);
        due(20, "finishOf(0)", x.finishOf(0), 5);
        due(20, "finishOf(1)", x.finishOf(1), 7);
        int[] heats = {20, 220, 420, 620, 610, 600, 590};
        for (int minute = 0; minute < heats.length; minute++) {
            due(21, "heatAfter(0, " + minute + ")", x.heatAfter(0, minute), heats[minute]);
        }
        due(21, "heatAfter(1, 6)", x.heatAfter(1, 6), 320);
        due(21, "heatAfter(1, 7)", x.heatAfter(1, 7), 300);
        due(21, "heatAfter(0, 480)", x.heatAfter(0, 480), 20);
        due(21, "heatAfter(0, 481)", x.heatAfter(0, 481), BAD_VALUE);
        due(21, "heatAfter(0, -1)", x.heatAfter(0, -1), BAD_VALUE);
        int[] spots = {0, 0, 0, 1, 1, 1, 10, 0};
        for (int minute = 0; minute < spots.length; minute++) {
            due(22, "whereIn(1, " + minute + ")", x.whereIn(1, minute), spots[minute]);
        }
        due(22, "whereIn(0, 4)", x.whereIn(0, 4), 10);
        due(22, "whereIn(0, 5)", x.whereIn(0, 5), ForgeScheduler.RACK);
        due(22, "whereIn(0, 479)", x.whereIn(0, 479), 0);
        due(22, "whereIn(0, 480)", x.whereIn(0, 480), BAD_VALUE);
        due(22, "whereIn(0, -1)", x.whereIn(0, -1), BAD_VALUE);
        due(23, "stepsAfter(0, 0)", x.stepsAfter(0, 0), 0);
        due(23, "stepsAfter(0, 4)", x.stepsAfter(0, 4), 0);
        due(23, "stepsAfter(0, 5)", x.stepsAfter(0, 5), 1);
        due(23, "stepsAfter(0, 480)", x.stepsAfter(0, 480), 1);
        due(23, "stepsAfter(0, 481)", x.stepsAfter(0, 481), BAD_VALUE);
        due(23, "stepsAfter(0, -1)", x.stepsAfter(0, -1), BAD_VALUE);
        due(24, "coldStops(0)", x.coldStops(0), 0);
        due(25, "heats(1)", x.heats(1), 1);
        due(26, "fireMinutes(0)", x.fireMinutes(0), 3);
        due(27, "anvilMinutes(0)", x.anvilMinutes(0), 3);
        due(28, "placeMinutes(0)", x.placeMinutes(0), 6);
        due(29, "hottest(0)", x.hottest(0), 620);
        due(30, "lastIron()", x.lastIron(), 1);
        due(48, "rackMinutes(0)", x.rackMinutes(0), 0);
        due(48, "rackMinutes(1)", x.rackMinutes(1), 3);
    }

    private static void minutes() {
        ForgeScheduler x = ForgeText.forge(PAIR);
        due(49, "firstWork(0)", x.firstWork(0), 3);
        due(49, "firstWork(1)", x.firstWork(1), 6);
        due(50, "ironInPlace(0, 0)", x.ironInPlace(0, 0), 0);
        due(50, "ironInPlace(0, 3)", x.ironInPlace(0, 3), 1);
        due(50, "ironInPlace(0, 6)", x.ironInPlace(0, 6), NOT_FOUND);
        due(50, "ironInPlace(0, 479)", x.ironInPlace(0, 479), NOT_FOUND);
        due(50, "ironInPlace(0, 480)", x.ironInPlace(0, 480), BAD_VALUE);
        due(50, "ironInPlace(0, -1)", x.ironInPlace(0, -1), BAD_VALUE);
        due(51, "ironOnAnvil(0, 2)", x.ironOnAnvil(0, 2), NOT_FOUND);
        due(51, "ironOnAnvil(0, 4)", x.ironOnAnvil(0, 4), 0);
        due(51, "ironOnAnvil(0, 6)", x.ironOnAnvil(0, 6), 1);
        due(51, "ironOnAnvil(0, 480)", x.ironOnAnvil(0, 480), BAD_VALUE);
        due(51, "ironOnAnvil(0, -1)", x.ironOnAnvil(0, -1), BAD_VALUE);
        due(52, "finishedBy(4)", x.finishedBy(4), 0);
        due(52, "finishedBy(5)", x.finishedBy(5), 1);
        due(52, "finishedBy(6)", x.finishedBy(6), 1);
        due(52, "finishedBy(7)", x.finishedBy(7), 2);
        due(52, "finishedBy(480)", x.finishedBy(480), 2);
        due(52, "finishedBy(481)", x.finishedBy(481), BAD_VALUE);
        due(52, "finishedBy(-1)", x.finishedBy(-1), BAD_VALUE);
        due(53, "idleMinutes(): 0 to 2 and 5", x.idleMinutes(), 4);
        x.setSetting(0, 2);
        due(53, "idleMinutes() with two anvils: 0 to 6", x.idleMinutes(), 7);
        x.setPlace(0, 1, 1000);
        due(49, "firstWork(1) without enough fire", x.firstWork(1), NOT_FOUND);
        due(53, "idleMinutes() of a run that is not completed", x.idleMinutes(), 480);
        due(48, "rackMinutes(1) of a run that is not completed", x.rackMinutes(1), 480);
        due(20, "finishOf(0) of a run that is not completed", x.finishOf(0), NOT_FOUND);
        due(19, "finish() of a run that is not completed", x.finish(), NOT_FOUND);
        due(30, "lastIron() of a run that is not completed", x.lastIron(), NOT_FOUND);
        due(21, "heatAfter(0, 480) by 1 degree a minute", x.heatAfter(0, 480), 500);
        due(26, "fireMinutes(0) of the whole run", x.fireMinutes(0), 480);
        due(28, "placeMinutes(0) of the whole run", x.placeMinutes(0), 480);
        due(27, "anvilMinutes(1)", x.anvilMinutes(1), 0);
    }

    private static void limits() {
        ForgeScheduler x = ForgeText.forge(COLD);
        due(24, "coldStops(0)", x.coldStops(0), 1);
        due(25, "heats(0)", x.heats(0), 2);
        due(26, "fireMinutes(0)", x.fireMinutes(0), 2);
        due(22, "whereIn(0, 2): from the anvil into the fire", x.whereIn(0, 2), 1);
        due(21, "heatAfter(0, 2)", x.heatAfter(0, 2), 421);
        due(20, "finishOf(0)", x.finishOf(0), 7);
        due(29, "hottest(0)", x.hottest(0), 921);
        x.setPlace(0, 2000, 507);
        due(21, "heatAfter(0, 1) is the limit", x.heatAfter(0, 1), 507);
        due(21, "heatAfter(0, 2) on the anvil", x.heatAfter(0, 2), 408);
        due(24, "coldStops(0) after each minute but the last", x.coldStops(0), 4);
        due(25, "heats(0)", x.heats(0), 5);
        due(19, "finish()", x.finish(), 10);
        x.setPlace(0, 2000, 499);
        due(19, "finish() below the heat of the step", x.finish(), NOT_FOUND);
        due(21, "heatAfter(0, 480) stays at the limit", x.heatAfter(0, 480), 499);
        ForgeScheduler y = ForgeText.forge("iron a 3 50;step a 600 1;step a 1000 1;place 2000 600;place 100 1500;set margin 0;");
        due(21, "2000 / 3 is rounded down, then the limit", y.heatAfter(0, 1), 600);
        due(21, "heatAfter(0, 2) on the anvil", y.heatAfter(0, 2), 550);
        due(21, "heatAfter(0, 3) back in place 0", y.heatAfter(0, 3), 600);
        due(19, "finish(): place 0 is too cold for step 1", y.finish(), NOT_FOUND);
        due(23, "stepsAfter(0, 480)", y.stepsAfter(0, 480), 1);
        ForgeScheduler z = ForgeText.forge("iron a 1 1;iron b 1 1;step a 1000 1;step a 1200 1;step b 100 9;step b 100 9;place 1000 300;place 1000 1500;set margin 0;");
        z.swap(0, 1);
        due(22, "b is first in the order and in place 0", z.whereIn(1, 0), 1);
        due(22, "a is in place 1", z.whereIn(0, 0), 2);
        due(21, "heatAfter(0, 1)", z.heatAfter(0, 1), 1020);
        due(21, "a waits for the anvil in its place", z.heatAfter(0, 2), 1500);
        due(22, "a is put on the anvil when b is finished", z.whereIn(0, 19), 10);
        due(19, "finish()", z.finish(), 21);
        ForgeScheduler w = ForgeText.forge("iron a 1 10;step a 300 1;step a 900 1;place 1000 1500;set margin 0;");
        w.setPlace(0, 380, 1500);
        due(21, "heatAfter(0, 2): 400 - 10", w.heatAfter(0, 2), 390);
        due(24, "a step that needs more heat stops the iron", w.coldStops(0), 1);
        due(19, "finish(): heated in 0, 2 and 3, worked in 1 and 4", w.finish(), 5);
        ForgeScheduler v = ForgeText.forge("iron a 1 90;iron b 1 1;step a 900 1;step a 1100 1;step b 100 30;place 1000 1500;place 200 500;set margin 0;");
        v.swap(0, 1);
        due(22, "b takes place 0 in minute 0", v.whereIn(1, 0), 1);
        due(22, "b is on the anvil in minute 1", v.whereIn(1, 1), 10);
        due(22, "a stays in place 1", v.whereIn(0, 30), 2);
        due(21, "a stays at the limit of place 1", v.heatAfter(0, 31), 500);
        ForgeScheduler u = ForgeText.forge("iron a 1 10;iron b 1 10;step a 900 1;step a 1000 1;step b 300 1;place 1000 1500;place 300 400;set margin 0;");
        due(22, "a is on the anvil in minute 1", u.whereIn(0, 1), 10);
        due(22, "b stays in place 1", u.whereIn(1, 1), 2);
        due(22, "a stays on the anvil: 1010 is enough", u.whereIn(0, 2), 10);
        due(20, "finishOf(1)", u.finishOf(1), 4);
    }

    private static void endOfRun() {
        ForgeScheduler x = ForgeText.forge("iron a 1 1;step a 499 1;place 1 1500;set margin 0;");
        due(19, "finish(): heated in 0 to 478, worked in 479", x.finish(), 480);
        due(20, "finishOf(0)", x.finishOf(0), 480);
        due(22, "whereIn(0, 479)", x.whereIn(0, 479), 10);
        due(23, "stepsAfter(0, 479)", x.stepsAfter(0, 479), 0);
        due(23, "stepsAfter(0, 480)", x.stepsAfter(0, 480), 1);
        due(28, "placeMinutes(0)", x.placeMinutes(0), 479);
        due(31, "bestFinish()", x.bestFinish(), 480);
        due(36, "bestMargin()", x.bestMargin(), 0);
        due(39, "finishAlone(0)", x.finishAlone(0), 480);
        due(49, "firstWork(0)", x.firstWork(0), 479);
        due(51, "ironOnAnvil(0, 479)", x.ironOnAnvil(0, 479), 0);
        due(52, "finishedBy(479)", x.finishedBy(479), 0);
        due(53, "idleMinutes()", x.idleMinutes(), 479);
        due(55, "bestRule()", x.bestRule(), 0);
        x.removeStep(0);
        x.addStep(0, 499, 2);
        due(19, "finish(): a minute is missing", x.finish(), NOT_FOUND);
        due(27, "anvilMinutes(0)", x.anvilMinutes(0), 1);
        due(24, "coldStops(0): the run is over", x.coldStops(0), 0);
        x.removeStep(0);
        x.addStep(0, 500, 1);
        due(19, "finish(): a degree is missing", x.finish(), NOT_FOUND);
        due(29, "hottest(0) is reached at the end", x.hottest(0), 500);
        due(49, "firstWork(0)", x.firstWork(0), NOT_FOUND);
        due(36, "bestMargin()", x.bestMargin(), NOT_FOUND);
        due(25, "heats(0)", x.heats(0), 1);
    }

    private static void sixIrons() {
        ForgeScheduler x = ForgeText.forge("iron a 1 1;iron b 1 1;iron c 1 1;iron d 1 1;iron e 1 1;iron f 1 1;step f 200 2;"
            + "place 90 500;place 1 500;place 1 500;set margin 0;");
        due(39, "finishAlone(5)", x.finishAlone(5), 5);
        due(38, "finishWithoutIron(5)", x.finishWithoutIron(5), 0);
        due(58, "criticalIrons()", x.criticalIrons(), 1 << 5);
        due(24, "coldStops(5): 200 is enough, 199 is finished with 2 minutes", x.coldStops(5), 1);
        due(19, "finish(): 200 in minute 2, 199 and 289 in 3, worked in 4", x.finish(), 5);
        x.setPlace(0, 91, 500);
        due(24, "coldStops(5): 202, 201", x.coldStops(5), 0);
        x.removeStep(5);
        x.addStep(5, 201, 2);
        due(24, "coldStops(5): 201 is enough for 201", x.coldStops(5), 0);
        due(19, "finish()", x.finish(), 4);
        due(26, "fireMinutes(5)", x.fireMinutes(5), 2);
        due(29, "hottest(5)", x.hottest(5), 202);
        due(48, "rackMinutes(5)", x.rackMinutes(5), 0);
        due(49, "firstWork(5)", x.firstWork(5), 2);
        due(50, "ironInPlace(0, 1)", x.ironInPlace(0, 1), 5);
        due(52, "finishedBy(3)", x.finishedBy(3), 5);
        x.removeStep(5);
        due(49, "firstWork(5) without steps", x.firstWork(5), NOT_FOUND);
        due(26, "fireMinutes(5) without steps", x.fireMinutes(5), 0);
        due(29, "hottest(5) without steps", x.hottest(5), 20);
        due(21, "heatAfter(5, 480) without steps", x.heatAfter(5, 480), 20);
    }

    private static void anvils() {
        ForgeScheduler x = ForgeText.forge("iron a 1 1;iron b 1 1;iron c 1 1;step a 100 5;step b 100 2;step c 100 3;"
            + "place 500 500;place 500 500;place 500 500;set margin 0;set anvils 2;");
        due(22, "whereIn(0, 1)", x.whereIn(0, 1), 10);
        due(22, "whereIn(1, 1)", x.whereIn(1, 1), 11);
        due(22, "c stays in place 2", x.whereIn(2, 1), 3);
        due(22, "c follows b on anvil 1", x.whereIn(2, 3), 11);
        due(27, "anvilMinutes(0)", x.anvilMinutes(0), 5);
        due(27, "anvilMinutes(1)", x.anvilMinutes(1), 5);
        due(28, "placeMinutes(2)", x.placeMinutes(2), 3);
        due(51, "ironOnAnvil(1, 4)", x.ironOnAnvil(1, 4), 2);
        due(50, "ironInPlace(1, 0)", x.ironInPlace(1, 0), 1);
        due(50, "ironInPlace(2, 2)", x.ironInPlace(2, 2), 2);
        due(30, "lastIron() is the lower of two", x.lastIron(), 0);
        due(19, "finish()", x.finish(), 6);
        due(53, "idleMinutes()", x.idleMinutes(), 1);
        due(54, "finishWithAnvils(1)", x.finishWithAnvils(1), 11);
        due(54, "finishWithAnvils(2)", x.finishWithAnvils(2), 6);
        due(54, "finishWithAnvils(3)", x.finishWithAnvils(3), 6);
        due(54, "finishWithAnvils(0)", x.finishWithAnvils(0), BAD_VALUE);
        due(54, "finishWithAnvils(4)", x.finishWithAnvils(4), BAD_VALUE);
        due(54, "getSetting(ANVILS) is the same", x.getSetting(0), 2);
        throwsIndex(27, "anvilMinutes(2) of two", () -> x.anvilMinutes(2));
        throwsIndex(51, "ironOnAnvil(2, 0) of two", () -> x.ironOnAnvil(2, 0));
        x.setSetting(0, 3);
        due(27, "anvilMinutes(2) of three", x.anvilMinutes(2), 3);
        x.setPlace(0, 1, 100);
        due(54, "finishWithAnvils(1): a is worked in 80, 82, 84, 86 and 88", x.finishWithAnvils(1), 89);
        x.setPlace(0, 1, 119);
        x.removeStep(0);
        x.addStep(0, 120, 1);
        due(54, "finishWithAnvils(1) without enough fire", x.finishWithAnvils(1), NOT_FOUND);
    }

    private static void rules() {
        ForgeScheduler x = ForgeText.forge(RIVALS);
        due(19, "finish() with RULE 0", x.finish(), 14);
        due(51, "RULE 0 takes the first", x.ironOnAnvil(0, 1), 0);
        due(53, "idleMinutes()", x.idleMinutes(), 2);
        due(24, "coldStops(1)", x.coldStops(1), 1);
        due(55, "bestRule()", x.bestRule(), 2);
        x.setSetting(2, 1);
        due(51, "RULE 1 with a tie takes the first", x.ironOnAnvil(0, 1), 0);
        due(55, "bestRule()", x.bestRule(), 2);
        x.setPlace(1, 301, 500);
        due(51, "RULE 1 takes the hottest", x.ironOnAnvil(0, 1), 1);
        due(19, "finish() with RULE 1", x.finish(), 13);
        due(55, "bestRule() is the lower of two", x.bestRule(), 1);
        x.setSetting(2, 2);
        due(51, "RULE 2 takes the one with least work", x.ironOnAnvil(0, 1), 1);
        due(19, "finish() with RULE 2", x.finish(), 13);
        x.setPlace(0, 1, 100);
        x.setPlace(1, 1, 100);
        due(55, "bestRule() without enough fire", x.bestRule(), NOT_FOUND);
        ForgeScheduler y = ForgeText.forge("iron a 1 1;iron b 1 1;step a 100 2;step b 100 1;step b 100 1;place 500 500;place 500 500;set margin 0;set rule 2;");
        due(51, "RULE 2 with a tie takes the first", y.ironOnAnvil(0, 1), 0);
        y.swap(0, 1);
        due(51, "RULE 2 with a tie takes the first of the order", y.ironOnAnvil(0, 1), 1);
        y.addStep(1, 100, 1);
        due(51, "RULE 2 counts the work of all steps", y.ironOnAnvil(0, 1), 0);
    }

    private static void margins() {
        ForgeScheduler x = ForgeText.forge(PAIR);
        due(35, "finishWithMargin(0)", x.finishWithMargin(0), 7);
        due(35, "finishWithMargin(100)", x.finishWithMargin(100), 8);
        due(35, "finishWithMargin(120): 620 is enough", x.finishWithMargin(120), 8);
        due(35, "finishWithMargin(121): 620 is not enough", x.finishWithMargin(121), 10);
        due(35, "finishWithMargin(500)", x.finishWithMargin(500), 14);
        due(35, "finishWithMargin(501)", x.finishWithMargin(501), BAD_VALUE);
        due(35, "finishWithMargin(-1)", x.finishWithMargin(-1), BAD_VALUE);
        due(35, "getSetting(MARGIN) is the same", x.getSetting(1), 0);
        due(36, "bestMargin()", x.bestMargin(), 0);
        x.setPlace(0, 200, 600);
        due(35, "finishWithMargin(101) above the limit", x.finishWithMargin(101), NOT_FOUND);
        ForgeScheduler y = ForgeText.forge("iron i 1 99;step i 500 3;place 500 1500;");
        due(35, "MARGIN 20 begins at 520, stops and is heated again", y.finishWithMargin(20), 5);
        due(35, "MARGIN 30 begins at 1020", y.finishWithMargin(30), 5);
        y.addStep(0, 700, 1);
        due(35, "MARGIN 20: 520, 421, 921, 822, 723, then 700 is enough", y.finishWithMargin(20), 6);
        y.setPlace(0, 1, 100);
        due(36, "bestMargin() without enough fire", y.bestMargin(), NOT_FOUND);
        ForgeScheduler v = ForgeText.forge("iron a 1 1;iron b 1 99;step a 250 10;step b 200 1;step b 600 1;place 300 1000;place 300 500;set margin 0;");
        due(35, "MARGIN 70: a is worked first", v.finishWithMargin(70), 14);
        due(35, "MARGIN 71: a is not ready in minute 1, so b is worked first", v.finishWithMargin(71), 13);
        due(36, "bestMargin() is the first of those that can be divided by 10", v.bestMargin(), 80);
        due(36, "getSetting(MARGIN) is the same", v.getSetting(1), 0);
        ForgeScheduler z = ForgeText.forge("iron a 1 99;step a 500 1;step a 300 4;place 290 1500;set margin 0;");
        due(35, "MARGIN 0: 600, 501, 402, 303, 204, heated, done", z.finishWithMargin(0), 8);
        due(35, "MARGIN 110: 890, 791, 692, 593, 494, 395", z.finishWithMargin(110), 8);
        z.addStep(0, 350, 1);
        due(35, "MARGIN 0: 494, 395 after the second heat", z.finishWithMargin(0), 9);
        due(35, "MARGIN 110: 395 is still enough", z.finishWithMargin(110), 9);
        z.addStep(0, 600, 1);
        due(35, "MARGIN 0: a heat more", z.finishWithMargin(0), 12);
    }

    private static void bestOrder() {
        ForgeScheduler x = ForgeText.forge(PAIR);
        x.swap(0, 1);
        due(19, "finish() with b first", x.finish(), 8);
        due(31, "bestFinish()", x.bestFinish(), 7);
        due(32, "bestIronAt(0)", x.bestIronAt(0), 0);
        due(32, "bestIronAt(1)", x.bestIronAt(1), 1);
        due(33, "bestOrders()", x.bestOrders(), 1);
        due(31, "the order is the same", x.orderCode(), 10);
        due(43, "useBestOrder()", x.useBestOrder(), 7);
        due(43, "orderCode()", x.orderCode(), 17);
        due(43, "finish()", x.finish(), 7);
        due(43, "undo()", x.undo(), 1);
        due(43, "orderCode() after undo", x.orderCode(), 10);
        due(43, "finish() after undo", x.finish(), 8);
        x.setPlace(0, 100, 400);
        due(31, "bestFinish() without enough fire", x.bestFinish(), NOT_FOUND);
        due(32, "bestIronAt(0) without enough fire", x.bestIronAt(0), NOT_FOUND);
        due(33, "bestOrders() without enough fire", x.bestOrders(), 0);
        due(43, "useBestOrder() without enough fire", x.useBestOrder(), NOT_FOUND);
        due(43, "undoCount() is the same", x.undoCount(), 2);
        ForgeScheduler y = ForgeText.forge("iron a 1 1;iron b 1 1;iron c 1 1;step a 100 1;step b 100 1;step c 100 9;place 100 500;set margin 0;");
        due(19, "finish(): c is heated in minute 2 and worked in 3 to 11", y.finish(), 12);
        due(31, "bestFinish(): c first; a and b in turn behind it", y.bestFinish(), 12);
        due(33, "bestOrders()", y.bestOrders(), 6);
        due(32, "the first of equals", y.bestIronAt(0), 0);
        y.addStep(2, 100, 9);
        due(31, "bestFinish(): worked in 1 to 20 without a gap", y.bestFinish(), 21);
        y.setSetting(0, 2);
        due(31, "bestFinish() with two anvils: c first", y.bestFinish(), 19);
        due(32, "bestIronAt(0) with two anvils", y.bestIronAt(0), 2);
        due(32, "bestIronAt(1) with two anvils", y.bestIronAt(1), 0);
        due(32, "bestIronAt(2) with two anvils", y.bestIronAt(2), 1);
        due(33, "bestOrders() with two anvils", y.bestOrders(), 2);
        due(43, "useBestOrder()", y.useBestOrder(), 19);
        due(43, "orderCode()", y.orderCode(), 3 | 1 << 3 | 2 << 6);
    }

    private static void whatIf() {
        ForgeScheduler x = ForgeText.forge(PAIR);
        due(34, "finishWithSwap(0, 1)", x.finishWithSwap(0, 1), 8);
        due(34, "finishWithSwap(1, 0)", x.finishWithSwap(1, 0), 8);
        due(34, "finishWithSwap(1, 1)", x.finishWithSwap(1, 1), 7);
        due(34, "the order is the same", x.orderCode(), 17);
        due(37, "finishWithoutPlace(0)", x.finishWithoutPlace(0), NOT_FOUND);
        due(37, "placeCount() is the same", x.placeCount(), 1);
        due(38, "finishWithoutIron(0)", x.finishWithoutIron(0), 4);
        due(38, "finishWithoutIron(1)", x.finishWithoutIron(1), 5);
        due(38, "stepCount(0) is the same", x.stepCount(0), 1);
        due(39, "finishAlone(0)", x.finishAlone(0), 5);
        due(39, "finishAlone(1)", x.finishAlone(1), 4);
        due(56, "finishWithRate(0, 480): 500, 490 and 260, 500", x.finishWithRate(0, 480), 5);
        due(56, "finishWithRate(0, 1)", x.finishWithRate(0, 1), NOT_FOUND);
        due(56, "finishWithRate(0, 0)", x.finishWithRate(0, 0), BAD_VALUE);
        due(56, "finishWithRate(0, 2001)", x.finishWithRate(0, 2001), BAD_VALUE);
        due(56, "finishWithRate(0, 2000)", x.finishWithRate(0, 2000), 4);
        due(56, "placeRate(0) is the same", x.placeRate(0), 200);
        due(57, "leastRate(0): a needs 160 for three minutes, b 187 for three", x.leastRate(0), 200);
        due(58, "criticalIrons()", x.criticalIrons(), 3);
        x.setPlace(0, 200, 499);
        due(38, "finishWithoutIron(0) without enough fire for a", x.finishWithoutIron(0), 4);
        due(38, "finishWithoutIron(1) without enough fire for a", x.finishWithoutIron(1), NOT_FOUND);
        due(39, "finishAlone(0) without enough fire for a", x.finishAlone(0), NOT_FOUND);
        due(57, "leastRate(0) without enough fire for a", x.leastRate(0), NOT_FOUND);
        due(58, "criticalIrons() without enough fire for a", x.criticalIrons(), 0);
        ForgeScheduler y = ForgeText.forge(RIVALS + "iron c 1 1;");
        due(37, "finishWithoutPlace(1)", y.finishWithoutPlace(1), 13);
        due(37, "finishWithoutPlace(0)", y.finishWithoutPlace(0), NOT_FOUND);
        due(39, "finishAlone(2) without steps", y.finishAlone(2), 0);
        due(38, "finishWithoutIron(2) without steps", y.finishWithoutIron(2), 14);
        due(58, "criticalIrons(): not the one without steps", y.criticalIrons(), 3);
        due(57, "leastRate(0): with 80 b is stopped before a has left place 0, and place 1 is too cold", y.leastRate(0), 100);
        due(56, "finishWithRate(0, 80)", y.finishWithRate(0, 80), NOT_FOUND);
        due(56, "finishWithRate(0, 100)", y.finishWithRate(0, 100), 13);
        due(56, "finishWithRate(0, 180)", y.finishWithRate(0, 180), 13);
        due(57, "leastRate(1): b must have 399 in minute 11", y.leastRate(1), 40);
        due(56, "finishWithRate(1, 20)", y.finishWithRate(1, 20), 15);
        due(56, "finishWithRate(1, 40)", y.finishWithRate(1, 40), 14);
        y.removeStep(0);
        y.removeStep(1);
        y.removeStep(1);
        due(57, "leastRate(0) without work", y.leastRate(0), 20);
        due(58, "criticalIrons() without work", y.criticalIrons(), 0);
        ForgeScheduler w = ForgeText.forge("iron a 1 1;step a 300 1;place 100 200;place 50 400;place 25 350;set margin 0;");
        due(19, "finish() with place 0, which is too cold", w.finish(), NOT_FOUND);
        due(37, "finishWithoutPlace(0) is with place 1", w.finishWithoutPlace(0), 7);
        due(37, "finishWithoutPlace(1) is with place 0", w.finishWithoutPlace(1), NOT_FOUND);
        ForgeScheduler v = ForgeText.forge("iron a 1 1;iron b 1 99;step a 200 5;step b 400 3;place 8 200;place 100 600;set margin 0;");
        due(19, "finish(): b in place 1 is worked in 4, 6, 8 and a in 23, 25 .. 31", v.finish(), 32);
        due(38, "finishWithoutIron(0): b is in place 0 then, which is too cold", v.finishWithoutIron(0), NOT_FOUND);
        due(58, "criticalIrons(): not the one without which the run is not completed", v.criticalIrons(), 0);
        ForgeScheduler u = ForgeText.forge("iron a 1 99;iron b 1 99;step a 100 5;step b 400 6;place 3 300;place 200 500;set margin 0;");
        due(19, "finish(): a in place 0 is worked in 27, 55, 83, 111 and 139", u.finish(), 140);
        due(57, "leastRate(0): with a faster place 0 b gets into it, and it is too cold", u.leastRate(0), NOT_FOUND);
        ForgeScheduler t = ForgeText.forge("iron a 2 1;step a 1020 1;place 2000 1500;set margin 0;");
        due(57, "leastRate(0): 1020 after one minute", t.leastRate(0), 2000);
        ForgeScheduler z = ForgeText.forge("iron a 1 99;step a 119 1;place 19 119;place 1 100;set margin 0;");
        due(57, "leastRate(0): 5 minutes with 20 and with 19 more", z.leastRate(0), 20);
        z.setPlace(0, 2000, 1000);
        due(57, "leastRate(0): 119 after one minute", z.leastRate(0), 100);
        due(57, "leastRate(1) is not used", z.leastRate(1), 20);
    }

    private static void changes() {
        ForgeScheduler x = ForgeText.forge(PAIR);
        due(41, "setSetting(ANVILS, 3)", x.setSetting(0, 3), 1);
        due(41, "setSetting(ANVILS, 3) again", x.setSetting(0, 3), 3);
        due(41, "undoCount()", x.undoCount(), 2);
        due(41, "setSetting(ANVILS, 4)", x.setSetting(0, 4), BAD_VALUE);
        due(41, "setSetting(ANVILS, 0)", x.setSetting(0, 0), BAD_VALUE);
        due(41, "setSetting(MARGIN, 500)", x.setSetting(1, 500), 0);
        due(41, "setSetting(MARGIN, 501)", x.setSetting(1, 501), BAD_VALUE);
        due(41, "setSetting(MARGIN, -1)", x.setSetting(1, -1), BAD_VALUE);
        due(41, "setSetting(MARGIN, 0)", x.setSetting(1, 0), 500);
        due(41, "setSetting(RULE, 2)", x.setSetting(2, 2), 0);
        due(41, "setSetting(RULE, 3)", x.setSetting(2, 3), BAD_VALUE);
        due(41, "setSetting(RULE, -1)", x.setSetting(2, -1), BAD_VALUE);
        due(41, "setSetting(3, 1)", x.setSetting(3, 1), BAD_VALUE);
        due(41, "setSetting(-1, 1)", x.setSetting(-1, 1), BAD_VALUE);
        due(7, "undoCount()", x.undoCount(), 5);
        due(16, "getSetting(RULE)", x.getSetting(2), 2);
        due(44, "setPlace(0, 1, 100)", x.setPlace(0, 1, 100), true);
        due(44, "setPlace(0, 2000, 1500)", x.setPlace(0, 2000, 1500), true);
        due(44, "setPlace(0, 2000, 1500) again", x.setPlace(0, 2000, 1500), true);
        due(44, "undoCount()", x.undoCount(), 8);
        due(44, "placeRate(0)", x.placeRate(0), 2000);
        due(44, "placeLimit(0)", x.placeLimit(0), 1500);
        due(44, "finish() with a hot fire", x.finish(), 3);
        due(44, "setPlace(0, 0, 100)", x.setPlace(0, 0, 100), false);
        due(44, "setPlace(0, 2001, 100)", x.setPlace(0, 2001, 100), false);
        due(44, "setPlace(0, 1, 99)", x.setPlace(0, 1, 99), false);
        due(44, "setPlace(0, 1, 1501)", x.setPlace(0, 1, 1501), false);
        due(44, "setPlace(1, 1, 100)", x.setPlace(1, 1, 100), false);
        due(44, "setPlace(-1, 1, 100)", x.setPlace(-1, 1, 100), false);
        due(44, "undoCount() is the same", x.undoCount(), 8);
        due(44, "placeRate(0) is the same", x.placeRate(0), 2000);
    }

    private static void steps() {
        ForgeScheduler x = ForgeText.forge(PAIR);
        due(45, "addStep(2, 0, 0)", x.addStep(2, 0, 0), NOT_FOUND);
        due(45, "addStep(-1, 100, 1)", x.addStep(-1, 100, 1), NOT_FOUND);
        due(45, "addStep(0, 99, 1)", x.addStep(0, 99, 1), BAD_VALUE);
        due(45, "addStep(0, 1401, 1)", x.addStep(0, 1401, 1), BAD_VALUE);
        due(45, "addStep(0, 100, 0)", x.addStep(0, 100, 0), BAD_VALUE);
        due(45, "addStep(0, 100, 31)", x.addStep(0, 100, 31), BAD_VALUE);
        due(45, "undoCount() is the same", x.undoCount(), 0);
        due(45, "addStep(0, 100, 30)", x.addStep(0, 100, 30), 2);
        due(45, "addStep(0, 1400, 1)", x.addStep(0, 1400, 1), 3);
        due(45, "stepHeat(0, 2)", x.stepHeat(0, 2), 1400);
        due(45, "stepMinutes(0, 1)", x.stepMinutes(0, 1), 30);
        due(45, "stepHeat(0, 0) is the same", x.stepHeat(0, 0), 500);
        due(45, "addStep(0, 100, 1)", x.addStep(0, 100, 1), 4);
        due(45, "addStep(0, 100, 1)", x.addStep(0, 100, 1), 5);
        due(45, "addStep(0, 100, 1) to five", x.addStep(0, 100, 1), FULL);
        due(45, "addStep(0, 99, 1) to five", x.addStep(0, 99, 1), BAD_VALUE);
        due(45, "undoCount()", x.undoCount(), 4);
        due(45, "stepHeat(1, 0) is the same", x.stepHeat(1, 0), 300);
        due(46, "removeStep(0)", x.removeStep(0), 4);
        due(46, "removeStep(0)", x.removeStep(0), 3);
        due(46, "removeStep(0)", x.removeStep(0), 2);
        due(46, "finish(): a 500, 590 .. 300 on the anvil", x.finishOf(0), 35);
        due(46, "removeStep(1)", x.removeStep(1), 0);
        due(46, "removeStep(1) without steps", x.removeStep(1), NOT_FOUND);
        due(46, "removeStep(2)", x.removeStep(2), NOT_FOUND);
        due(46, "removeStep(-1)", x.removeStep(-1), NOT_FOUND);
        due(46, "undoCount()", x.undoCount(), 8);
        throwsIndex(46, "stepHeat(1, 0)", () -> x.stepHeat(1, 0));
        due(46, "finishOf(1)", x.finishOf(1), 0);
    }

    private static void undoing() {
        ForgeScheduler x = ForgeText.forge(PAIR);
        for (int margin = 1; margin <= 15; margin++) {
            x.setSetting(1, margin);
            due(7, "undoCount() after " + margin, x.undoCount(), Math.min(margin, 12));
        }
        for (int left = 11; left >= 0; left--) {
            due(47, "undo()", x.undo(), left);
            due(47, "getSetting(MARGIN)", x.getSetting(1), left + 3);
        }
        due(47, "undo() of nothing", x.undo(), NOT_FOUND);
        due(47, "getSetting(MARGIN)", x.getSetting(1), 3);
        x.removeStep(0);
        x.addStep(0, 700, 7);
        x.addStep(1, 800, 8);
        x.setPlace(0, 300, 900);
        x.swap(0, 1);
        x.setSetting(0, 2);
        due(47, "undo() of setSetting", x.undo(), 5);
        due(47, "getSetting(ANVILS)", x.getSetting(0), 1);
        due(47, "undo() of swap", x.undo(), 4);
        due(47, "orderCode()", x.orderCode(), 17);
        due(47, "undo() of setPlace", x.undo(), 3);
        due(47, "placeRate(0)", x.placeRate(0), 200);
        due(47, "placeLimit(0)", x.placeLimit(0), 1000);
        due(47, "undo() of addStep", x.undo(), 2);
        due(47, "stepCount(1)", x.stepCount(1), 1);
        due(47, "undo() of addStep", x.undo(), 1);
        due(47, "stepCount(0)", x.stepCount(0), 0);
        due(47, "undo() of removeStep", x.undo(), 0);
        due(47, "stepHeat(0, 0)", x.stepHeat(0, 0), 500);
        due(47, "stepMinutes(0, 0)", x.stepMinutes(0, 0), 2);
        due(47, "finish()", x.finish(), 7);
        x.swap(0, 1);
        due(47, "finish() is told anew after a change", x.finish(), 8);
        due(47, "undo() of swap", x.undo(), 0);
        due(47, "finish() is told anew after undo", x.finish(), 7);
        ForgeText.load(x, "iron a 1 1;");
        due(3, "finish() is told anew after load", x.finish(), 0);
        due(47, "undo() after load", x.undo(), NOT_FOUND);
    }

    private static void wrongIndices() {
        ForgeScheduler x = ForgeText.forge(PAIR + "place 1 100;");
        for (int bad : new int[] {-1, 2, 6, LOW, HIGH}) {
            throwsIndex(9, "mass(" + bad + ")", () -> x.mass(bad));
            throwsIndex(10, "cooling(" + bad + ")", () -> x.cooling(bad));
            throwsIndex(11, "stepCount(" + bad + ")", () -> x.stepCount(bad));
            throwsIndex(12, "stepHeat(" + bad + ", 0)", () -> x.stepHeat(bad, 0));
            throwsIndex(12, "stepHeat(0, " + bad + ")", () -> x.stepHeat(0, bad));
            throwsIndex(13, "stepMinutes(" + bad + ", 0)", () -> x.stepMinutes(bad, 0));
            throwsIndex(13, "stepMinutes(0, " + bad + ")", () -> x.stepMinutes(0, bad));
            throwsIndex(14, "placeRate(" + bad + ")", () -> x.placeRate(bad));
            throwsIndex(15, "placeLimit(" + bad + ")", () -> x.placeLimit(bad));
            throwsIndex(17, "ironAt(" + bad + ")", () -> x.ironAt(bad));
            throwsIndex(18, "positionOf(" + bad + ")", () -> x.positionOf(bad));
            throwsIndex(20, "finishOf(" + bad + ")", () -> x.finishOf(bad));
            throwsIndex(21, "heatAfter(" + bad + ", 481)", () -> x.heatAfter(bad, 481));
            throwsIndex(22, "whereIn(" + bad + ", 480)", () -> x.whereIn(bad, 480));
            throwsIndex(23, "stepsAfter(" + bad + ", 481)", () -> x.stepsAfter(bad, 481));
            throwsIndex(24, "coldStops(" + bad + ")", () -> x.coldStops(bad));
            throwsIndex(25, "heats(" + bad + ")", () -> x.heats(bad));
            throwsIndex(26, "fireMinutes(" + bad + ")", () -> x.fireMinutes(bad));
            throwsIndex(27, "anvilMinutes(" + bad + ")", () -> x.anvilMinutes(bad));
            throwsIndex(28, "placeMinutes(" + bad + ")", () -> x.placeMinutes(bad));
            throwsIndex(29, "hottest(" + bad + ")", () -> x.hottest(bad));
            throwsIndex(32, "bestIronAt(" + bad + ")", () -> x.bestIronAt(bad));
            throwsIndex(34, "finishWithSwap(" + bad + ", 0)", () -> x.finishWithSwap(bad, 0));
            throwsIndex(34, "finishWithSwap(0, " + bad + ")", () -> x.finishWithSwap(0, bad));
            throwsIndex(37, "finishWithoutPlace(" + bad + ")", () -> x.finishWithoutPlace(bad));
            throwsIndex(38, "finishWithoutIron(" + bad + ")", () -> x.finishWithoutIron(bad));
            throwsIndex(39, "finishAlone(" + bad + ")", () -> x.finishAlone(bad));
            throwsIndex(48, "rackMinutes(" + bad + ")", () -> x.rackMinutes(bad));
            throwsIndex(49, "firstWork(" + bad + ")", () -> x.firstWork(bad));
            throwsIndex(50, "ironInPlace(" + bad + ", 480)", () -> x.ironInPlace(bad, 480));
            throwsIndex(51, "ironOnAnvil(" + bad + ", 480)", () -> x.ironOnAnvil(bad, 480));
            throwsIndex(56, "finishWithRate(" + bad + ", 0)", () -> x.finishWithRate(bad, 0));
            throwsIndex(57, "leastRate(" + bad + ")", () -> x.leastRate(bad));
        }
        throwsIndex(12, "stepHeat(0, 1)", () -> x.stepHeat(0, 1));
        throwsIndex(51, "ironOnAnvil(1, 0) of one", () -> x.ironOnAnvil(1, 0));
        x.setPlace(0, 100, 400);
        throwsIndex(32, "bestIronAt(2) when no run is completed", () -> x.bestIronAt(2));
        throwsIndex(57, "leastRate(2) when the run is not completed", () -> x.leastRate(2));
        due(7, "undoCount() after all of them", x.undoCount(), 1);
    }
}

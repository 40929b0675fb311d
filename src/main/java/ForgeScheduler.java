/**
 * A scheduler for a forge: irons are heated in the places of a fire, worked on anvils as long as
 * they are hot enough, and cool down in the meantime. It simulates the work minute by minute by an
 * order of the irons, and finds the order with which all irons are finished first.
 */
public final class ForgeScheduler {
    public static final int ANVILS = 0, MARGIN = 1, RULE = 2;
    public static final int RACK = 0;
    public static final int NOT_FOUND = -1;
    public static final int BAD_VALUE = -2;
    public static final int FULL = -3;
    public static final int SYNTAX_ERROR = -11, RANGE_ERROR = -12, NAME_ERROR = -13, DUPLICATE_ERROR = -14, COUNT_ERROR = -15;

    private static final int MAX_IRONS = 6;
    private static final int MAX_PLACES = 3;
    private static final int MAX_ANVILS = 3;
    private static final int MAX_STEPS = 5;
    private static final int MAX_CHANGES = 12;
    private static final int MAX_BYTES = 900;
    private static final int MAX_ORDERS = 720;
    private static final int SETTINGS = 3;

    private static final int LEAST_MASS = 1, MOST_MASS = 9;
    private static final int LEAST_COOLING = 1, MOST_COOLING = 99;
    private static final int LEAST_HEAT = 100, MOST_HEAT = 1400;
    private static final int LEAST_MINUTES = 1, MOST_MINUTES = 30;
    private static final int LEAST_RATE = 1, MOST_RATE = 2000;
    private static final int LEAST_LIMIT = 100, MOST_LIMIT = 1500;
    private static final int[] LEAST_SETTING = {1, 0, 0};
    private static final int[] MOST_SETTING = {3, 500, 2};
    private static final int[] INITIAL_SETTING = {1, 50, 0};

    private static final int RUN_MINUTES = 480;
    private static final int ROOM_HEAT = 20;
    private static final int NOBODY = -1;
    private static final int FIRST_PLACE = 1;
    private static final int FIRST_ANVIL = 10;
    private static final int HOTTEST_RULE = 1, LEAST_WORK_RULE = 2;
    private static final int MARGIN_STRIDE = 10, RULE_STRIDE = 1, RATE_STRIDE = 20;

    private final Forge forge;
    private final Changes changes;
    private final Reader reader;
    private final Log log;
    private final BestOrder best;
    private final Forge trial;
    private final Run trialRun;
    private boolean logIsCurrent;
    private boolean bestIsCurrent;

    public ForgeScheduler() {
        forge = new Forge();
        changes = new Changes();
        reader = new Reader();
        log = new Log(forge);
        best = new BestOrder();
        trial = new Forge();
        trialRun = new Run(trial);
        logIsCurrent = false;
        bestIsCurrent = false;
    }

    public int feed(int a, int b, int c, int d, int e) {
        if (!reader.hasRoom()) {
            return FULL;
        }
        reader.append(a);
        reader.append(b);
        reader.append(c);
        reader.append(d);
        reader.append(e);
        return reader.size;
    }

    public int load(int length) {
        if (!isWithin(length, 0, reader.size)) {
            return BAD_VALUE;
        }
        int answer = reader.readText(length);
        if (answer >= 0) {
            forge.copyFrom(reader.draft);
            changes.forget();
            forgetResults();
        }
        return answer;
    }

    public int errorPosition() {
        return reader.errorAt;
    }

    public int ironCount() {
        return forge.irons;
    }

    public int placeCount() {
        return forge.places;
    }

    public int undoCount() {
        return changes.count;
    }

    public int ironNamed(int letters) {
        return forge.findName(letters);
    }

    public int mass(int iron) throws IndexOutOfBoundsException {
        requireIron(iron);
        return forge.masses[iron];
    }

    public int cooling(int iron) throws IndexOutOfBoundsException {
        requireIron(iron);
        return forge.coolings[iron];
    }

    public int stepCount(int iron) throws IndexOutOfBoundsException {
        requireIron(iron);
        return forge.steps[iron];
    }

    public int stepHeat(int iron, int step) throws IndexOutOfBoundsException {
        requireStep(iron, step);
        return forge.heatOfStep(iron, step);
    }

    public int stepMinutes(int iron, int step) throws IndexOutOfBoundsException {
        requireStep(iron, step);
        return forge.minutesOfStep(iron, step);
    }

    public int placeRate(int place) throws IndexOutOfBoundsException {
        requirePlace(place);
        return forge.rates[place];
    }

    public int placeLimit(int place) throws IndexOutOfBoundsException {
        requirePlace(place);
        return forge.limits[place];
    }

    public int getSetting(int setting) {
        return isSetting(setting) ? forge.settings[setting] : BAD_VALUE;
    }

    public int ironAt(int position) throws IndexOutOfBoundsException {
        requireIron(position);
        return forge.order[position];
    }

    public int positionOf(int iron) throws IndexOutOfBoundsException {
        requireIron(iron);
        return forge.findPosition(iron);
    }

    public int finish() {
        return presentLog().run.endMinute();
    }

    public int finishOf(int iron) throws IndexOutOfBoundsException {
        requireIron(iron);
        return presentLog().run.finishedAt[iron];
    }

    public int heatAfter(int iron, int minute) throws IndexOutOfBoundsException {
        requireIron(iron);
        return isWithin(minute, 0, RUN_MINUTES) ? presentLog().heatOf(iron, minute) : BAD_VALUE;
    }

    public int whereIn(int iron, int minute) throws IndexOutOfBoundsException {
        requireIron(iron);
        return isMinute(minute) ? presentLog().spotOf(iron, minute) : BAD_VALUE;
    }

    public int stepsAfter(int iron, int minute) throws IndexOutOfBoundsException {
        requireIron(iron);
        return isWithin(minute, 0, RUN_MINUTES) ? presentLog().stepsOf(iron, minute) : BAD_VALUE;
    }

    public int coldStops(int iron) throws IndexOutOfBoundsException {
        requireIron(iron);
        return presentLog().run.stopsByCold[iron];
    }

    public int heats(int iron) throws IndexOutOfBoundsException {
        requireIron(iron);
        return presentLog().run.timesHeated[iron];
    }

    public int fireMinutes(int iron) throws IndexOutOfBoundsException {
        requireIron(iron);
        return presentLog().minutesInFire(iron);
    }

    public int anvilMinutes(int anvil) throws IndexOutOfBoundsException {
        requireAnvil(anvil);
        return presentLog().minutesUsed(FIRST_ANVIL + anvil);
    }

    public int placeMinutes(int place) throws IndexOutOfBoundsException {
        requirePlace(place);
        return presentLog().minutesUsed(FIRST_PLACE + place);
    }

    public int hottest(int iron) throws IndexOutOfBoundsException {
        requireIron(iron);
        return presentLog().greatestHeat(iron);
    }

    public int lastIron() {
        return presentLog().run.lastFinished();
    }

    public int bestFinish() {
        return presentBest().earliest;
    }

    public int bestIronAt(int position) throws IndexOutOfBoundsException {
        requireIron(position);
        BestOrder found = presentBest();
        return found.earliest == NOT_FOUND ? NOT_FOUND : found.order[position];
    }

    public int bestOrders() {
        return presentBest().ties;
    }

    public int finishWithSwap(int one, int other) throws IndexOutOfBoundsException {
        requireIron(one);
        requireIron(other);
        trial.copyFrom(forge);
        trial.exchange(one, other);
        return trialRun.endWithin(RUN_MINUTES);
    }

    public int finishWithMargin(int margin) {
        return finishWithSetting(MARGIN, margin);
    }

    public int bestMargin() {
        return bestValue(MARGIN, MARGIN_STRIDE);
    }

    public int finishWithoutPlace(int place) throws IndexOutOfBoundsException {
        requirePlace(place);
        trial.copyFrom(forge);
        trial.dropPlace(place);
        return trialRun.endWithin(RUN_MINUTES);
    }

    public int finishWithoutIron(int iron) throws IndexOutOfBoundsException {
        requireIron(iron);
        return finishOfOthers(iron);
    }

    public int finishAlone(int iron) throws IndexOutOfBoundsException {
        requireIron(iron);
        trial.copyFrom(forge);
        for (int other = 0; other < trial.irons; other++) {
            if (other != iron) {
                trial.steps[other] = 0;
            }
        }
        return trialRun.endWithin(RUN_MINUTES);
    }

    public int orderCode() {
        int code = 0;
        for (int position = 0; position < forge.irons; position++) {
            code |= (forge.order[position] + 1) << (3 * position);
        }
        return code;
    }

    public int setSetting(int setting, int value) {
        if (!isSettingValue(setting, value)) {
            return BAD_VALUE;
        }
        int previous = forge.settings[setting];
        beginChange();
        forge.settings[setting] = value;
        return previous;
    }

    public boolean swap(int one, int other) {
        if (!isIron(one) || !isIron(other)) {
            return false;
        }
        beginChange();
        forge.exchange(one, other);
        return true;
    }

    public int useBestOrder() {
        BestOrder found = presentBest();
        if (found.earliest == NOT_FOUND) {
            return NOT_FOUND;
        }
        beginChange();
        System.arraycopy(found.order, 0, forge.order, 0, MAX_IRONS);
        return found.earliest;
    }

    public boolean setPlace(int place, int rate, int limit) {
        if (!isPlace(place) || !isWithin(rate, LEAST_RATE, MOST_RATE) || !isWithin(limit, LEAST_LIMIT, MOST_LIMIT)) {
            return false;
        }
        beginChange();
        forge.rates[place] = rate;
        forge.limits[place] = limit;
        return true;
    }

    public int addStep(int iron, int heat, int minutes) {
        if (!isIron(iron)) {
            return NOT_FOUND;
        }
        if (!isWithin(heat, LEAST_HEAT, MOST_HEAT) || !isWithin(minutes, LEAST_MINUTES, MOST_MINUTES)) {
            return BAD_VALUE;
        }
        if (forge.steps[iron] >= MAX_STEPS) {
            return FULL;
        }
        beginChange();
        forge.appendStep(iron, heat, minutes);
        return forge.steps[iron];
    }

    public int removeStep(int iron) {
        if (!isIron(iron) || forge.steps[iron] == 0) {
            return NOT_FOUND;
        }
        beginChange();
        forge.steps[iron]--;
        return forge.steps[iron];
    }

    public int undo() {
        if (!changes.restore(forge)) {
            return NOT_FOUND;
        }
        forgetResults();
        return changes.count;
    }

    public int rackMinutes(int iron) throws IndexOutOfBoundsException {
        requireIron(iron);
        return presentLog().minutesOnRack(iron, forge.steps[iron]);
    }

    public int firstWork(int iron) throws IndexOutOfBoundsException {
        requireIron(iron);
        return presentLog().firstOnAnvil(iron);
    }

    public int ironInPlace(int place, int minute) throws IndexOutOfBoundsException {
        requirePlace(place);
        return isMinute(minute) ? presentLog().ironOnSpot(FIRST_PLACE + place, minute) : BAD_VALUE;
    }

    public int ironOnAnvil(int anvil, int minute) throws IndexOutOfBoundsException {
        requireAnvil(anvil);
        return isMinute(minute) ? presentLog().ironOnSpot(FIRST_ANVIL + anvil, minute) : BAD_VALUE;
    }

    public int finishedBy(int minute) {
        return isWithin(minute, 0, RUN_MINUTES) ? presentLog().finishedAfter(minute) : BAD_VALUE;
    }

    public int idleMinutes() {
        return presentLog().minutesIdle();
    }

    public int finishWithAnvils(int anvils) {
        return finishWithSetting(ANVILS, anvils);
    }

    public int bestRule() {
        return bestValue(RULE, RULE_STRIDE);
    }

    public int finishWithRate(int place, int rate) throws IndexOutOfBoundsException {
        requirePlace(place);
        if (!isWithin(rate, LEAST_RATE, MOST_RATE)) {
            return BAD_VALUE;
        }
        trial.copyFrom(forge);
        trial.rates[place] = rate;
        return trialRun.endWithin(RUN_MINUTES);
    }

    public int leastRate(int place) throws IndexOutOfBoundsException {
        requirePlace(place);
        int now = finish();
        if (now == NOT_FOUND) {
            return NOT_FOUND;
        }
        trial.copyFrom(forge);
        for (int rate = RATE_STRIDE; rate <= MOST_RATE; rate += RATE_STRIDE) {
            trial.rates[place] = rate;
            if (trialRun.endWithin(now) != NOT_FOUND) {
                return rate;
            }
        }
        return NOT_FOUND;
    }

    public int criticalIrons() {
        int now = finish();
        int critical = 0;
        for (int iron = 0; now != NOT_FOUND && iron < forge.irons; iron++) {
            int others = finishOfOthers(iron);
            if (others != NOT_FOUND && others < now) {
                critical |= 1 << iron;
            }
        }
        return critical;
    }

    private static boolean isWithin(int value, int least, int most) {
        return value >= least && value <= most;
    }

    private static boolean isMinute(int minute) {
        return isWithin(minute, 0, RUN_MINUTES - 1);
    }

    private static boolean isSetting(int setting) {
        return isWithin(setting, 0, SETTINGS - 1);
    }

    private static boolean isSettingValue(int setting, int value) {
        return isSetting(setting) && isWithin(value, LEAST_SETTING[setting], MOST_SETTING[setting]);
    }

    /** Positions of the order have the same range as irons, so this test serves both. */
    private boolean isIron(int iron) {
        return isWithin(iron, 0, forge.irons - 1);
    }

    private boolean isPlace(int place) {
        return isWithin(place, 0, forge.places - 1);
    }

    private void requireIron(int iron) {
        if (!isIron(iron)) {
            throw new IndexOutOfBoundsException("no such iron or position");
        }
    }

    private void requireStep(int iron, int step) {
        requireIron(iron);
        if (!isWithin(step, 0, forge.steps[iron] - 1)) {
            throw new IndexOutOfBoundsException("no such step");
        }
    }

    private void requirePlace(int place) {
        if (!isPlace(place)) {
            throw new IndexOutOfBoundsException("no such fire place");
        }
    }

    private void requireAnvil(int anvil) {
        if (!isWithin(anvil, 0, forge.settings[ANVILS] - 1)) {
            throw new IndexOutOfBoundsException("no such anvil");
        }
    }

    private void beginChange() {
        changes.keep(forge);
        forgetResults();
    }

    private void forgetResults() {
        logIsCurrent = false;
        bestIsCurrent = false;
    }

    private Log presentLog() {
        if (!logIsCurrent) {
            log.write();
            logIsCurrent = true;
        }
        return log;
    }

    private BestOrder presentBest() {
        if (!bestIsCurrent) {
            trial.copyFrom(forge);
            best.search(trial, trialRun);
            bestIsCurrent = true;
        }
        return best;
    }

    private int finishWithSetting(int setting, int value) {
        if (!isSettingValue(setting, value)) {
            return BAD_VALUE;
        }
        trial.copyFrom(forge);
        trial.settings[setting] = value;
        return trialRun.endWithin(RUN_MINUTES);
    }

    private int bestValue(int setting, int stride) {
        int bestSoFar = NOT_FOUND;
        int earliest = RUN_MINUTES + 1;
        trial.copyFrom(forge);
        for (int value = LEAST_SETTING[setting]; value <= MOST_SETTING[setting]; value += stride) {
            trial.settings[setting] = value;
            int end = trialRun.endWithin(Math.min(earliest, RUN_MINUTES));
            if (end != NOT_FOUND && end < earliest) {
                earliest = end;
                bestSoFar = value;
            }
        }
        return bestSoFar;
    }

    /** An iron without steps never leaves the rack, so taking its steps is as good as taking it away. */
    private int finishOfOthers(int iron) {
        trial.copyFrom(forge);
        trial.steps[iron] = 0;
        return trialRun.endWithin(RUN_MINUTES);
    }

    /** What a text describes and changes change: irons, fire places, settings and the order. */
    private static final class Forge {
        int irons;
        int places;
        final int[] names = new int[MAX_IRONS];
        final int[] masses = new int[MAX_IRONS];
        final int[] coolings = new int[MAX_IRONS];
        final int[] steps = new int[MAX_IRONS];
        final int[] heatsOfSteps = new int[MAX_IRONS * MAX_STEPS];
        final int[] minutesOfSteps = new int[MAX_IRONS * MAX_STEPS];
        final int[] rates = new int[MAX_PLACES];
        final int[] limits = new int[MAX_PLACES];
        final int[] settings = new int[SETTINGS];
        final int[] order = new int[MAX_IRONS];

        Forge() {
            System.arraycopy(INITIAL_SETTING, 0, settings, 0, SETTINGS);
        }

        void clear() {
            irons = 0;
            places = 0;
            System.arraycopy(INITIAL_SETTING, 0, settings, 0, SETTINGS);
        }

        void copyFrom(Forge other) {
            irons = other.irons;
            places = other.places;
            System.arraycopy(other.names, 0, names, 0, MAX_IRONS);
            System.arraycopy(other.masses, 0, masses, 0, MAX_IRONS);
            System.arraycopy(other.coolings, 0, coolings, 0, MAX_IRONS);
            System.arraycopy(other.steps, 0, steps, 0, MAX_IRONS);
            System.arraycopy(other.heatsOfSteps, 0, heatsOfSteps, 0, MAX_IRONS * MAX_STEPS);
            System.arraycopy(other.minutesOfSteps, 0, minutesOfSteps, 0, MAX_IRONS * MAX_STEPS);
            System.arraycopy(other.rates, 0, rates, 0, MAX_PLACES);
            System.arraycopy(other.limits, 0, limits, 0, MAX_PLACES);
            System.arraycopy(other.settings, 0, settings, 0, SETTINGS);
            System.arraycopy(other.order, 0, order, 0, MAX_IRONS);
        }

        int heatOfStep(int iron, int step) {
            return heatsOfSteps[iron * MAX_STEPS + step];
        }

        int minutesOfStep(int iron, int step) {
            return minutesOfSteps[iron * MAX_STEPS + step];
        }

        int minutesOfWork(int iron) {
            int sum = 0;
            for (int step = 0; step < steps[iron]; step++) {
                sum += minutesOfSteps[iron * MAX_STEPS + step];
            }
            return sum;
        }

        int findName(int name) {
            for (int iron = 0; iron < irons; iron++) {
                if (names[iron] == name) {
                    return iron;
                }
            }
            return NOT_FOUND;
        }

        int findPosition(int iron) {
            for (int position = 0; position < irons; position++) {
                if (order[position] == iron) {
                    return position;
                }
            }
            return NOT_FOUND;
        }

        void orderByIndex() {
            for (int position = 0; position < irons; position++) {
                order[position] = position;
            }
        }

        void exchange(int one, int other) {
            int iron = order[one];
            order[one] = order[other];
            order[other] = iron;
        }

        void appendIron(int name, int mass, int cooling) {
            names[irons] = name;
            masses[irons] = mass;
            coolings[irons] = cooling;
            steps[irons] = 0;
            order[irons] = irons;
            irons++;
        }

        void appendStep(int iron, int heat, int minutes) {
            int index = iron * MAX_STEPS + steps[iron];
            heatsOfSteps[index] = heat;
            minutesOfSteps[index] = minutes;
            steps[iron]++;
        }

        void appendPlace(int rate, int limit) {
            rates[places] = rate;
            limits[places] = limit;
            places++;
        }

        void dropPlace(int place) {
            for (int next = place + 1; next < places; next++) {
                rates[next - 1] = rates[next];
                limits[next - 1] = limits[next];
            }
            places--;
        }
    }

    /** The forges before the latest changes, in a ring, so that the oldest one gives way. */
    private static final class Changes {
        final Forge[] kept = new Forge[MAX_CHANGES];
        int next;
        int count;

        void keep(Forge forge) {
            if (kept[next] == null) {
                kept[next] = new Forge();
            }
            kept[next].copyFrom(forge);
            next = (next + 1) % MAX_CHANGES;
            count = Math.min(count + 1, MAX_CHANGES);
        }

        boolean restore(Forge forge) {
            int latest = (next + MAX_CHANGES - 1) % MAX_CHANGES;
            Forge before = kept[latest];
            if (count == 0 || before == null) {
                return false;
            }
            forge.copyFrom(before);
            next = latest;
            count--;
            return true;
        }

        void forget() {
            count = 0;
        }
    }

    /**
     * One run of a forge. The four parts of a minute are clearAnvils, fillAnvils, fillPlaces and
     * pass; who runs it calls them in this order.
     */
    private static final class Run {
        final Forge forge;
        final int[] heat = new int[MAX_IRONS];
        final int[] spot = new int[MAX_IRONS];
        final int[] stepsDone = new int[MAX_IRONS];
        final int[] stepLeft = new int[MAX_IRONS];
        final int[] heatNeeded = new int[MAX_IRONS];
        final int[] workLeft = new int[MAX_IRONS];
        final int[] finishedAt = new int[MAX_IRONS];
        final int[] stopsByCold = new int[MAX_IRONS];
        final int[] timesHeated = new int[MAX_IRONS];
        final int[] onAnvil = new int[MAX_ANVILS];
        final int[] inPlace = new int[MAX_PLACES];
        int unfinished;

        Run(Forge forge) {
            this.forge = forge;
        }

        /** The minute at which all irons are finished, NOT_FOUND if that is not within some minutes. */
        int endWithin(int minutes) {
            begin();
            boolean moving = true;
            for (int minute = 0; minute < minutes && unfinished > 0 && moving; minute++) {
                clearAnvils();
                fillAnvils();
                fillPlaces();
                moving = pass(minute);
            }
            return endMinute();
        }

        void begin() {
            unfinished = 0;
            for (int anvil = 0; anvil < MAX_ANVILS; anvil++) {
                onAnvil[anvil] = NOBODY;
            }
            for (int place = 0; place < MAX_PLACES; place++) {
                inPlace[place] = NOBODY;
            }
            for (int iron = 0; iron < forge.irons; iron++) {
                beginIron(iron);
            }
        }

        private void beginIron(int iron) {
            heat[iron] = ROOM_HEAT;
            spot[iron] = RACK;
            stepsDone[iron] = 0;
            stopsByCold[iron] = 0;
            timesHeated[iron] = 0;
            workLeft[iron] = forge.minutesOfWork(iron);
            if (isFinished(iron)) {
                finishedAt[iron] = 0;
            } else {
                finishedAt[iron] = NOT_FOUND;
                unfinished++;
                beginStep(iron);
            }
        }

        private void beginStep(int iron) {
            int index = iron * MAX_STEPS + stepsDone[iron];
            stepLeft[iron] = forge.minutesOfSteps[index];
            heatNeeded[iron] = forge.heatsOfSteps[index];
        }

        void clearAnvils() {
            for (int anvil = 0; anvil < forge.settings[ANVILS]; anvil++) {
                int iron = onAnvil[anvil];
                if (iron == NOBODY) {
                    continue;
                }
                if (isFinished(iron)) {
                    putOnRack(iron, anvil);
                } else if (heat[iron] < heatNeeded[iron]) {
                    putOnRack(iron, anvil);
                    stopsByCold[iron]++;
                }
            }
        }

        private void putOnRack(int iron, int anvil) {
            onAnvil[anvil] = NOBODY;
            spot[iron] = RACK;
        }

        void fillAnvils() {
            for (int anvil = 0; anvil < forge.settings[ANVILS]; anvil++) {
                if (onAnvil[anvil] != NOBODY) {
                    continue;
                }
                int iron = chooseReady();
                if (iron == NOBODY) {
                    return;
                }
                if (isInFire(iron)) {
                    inPlace[spot[iron] - FIRST_PLACE] = NOBODY;
                }
                onAnvil[anvil] = iron;
                spot[iron] = FIRST_ANVIL + anvil;
            }
        }

        private int chooseReady() {
            int chosen = NOBODY;
            for (int position = 0; position < forge.irons; position++) {
                int iron = forge.order[position];
                if (isReady(iron) && (chosen == NOBODY || goesBefore(iron, chosen))) {
                    chosen = iron;
                }
            }
            return chosen;
        }

        /** Only a strict advantage counts, so that the order breaks ties. */
        private boolean goesBefore(int iron, int chosen) {
            switch (forge.settings[RULE]) {
                case HOTTEST_RULE:
                    return heat[iron] > heat[chosen];
                case LEAST_WORK_RULE:
                    return workLeft[iron] < workLeft[chosen];
                default:
                    return false;
            }
        }

        void fillPlaces() {
            for (int place = 0; place < forge.places; place++) {
                if (inPlace[place] != NOBODY) {
                    continue;
                }
                int iron = firstWaiting();
                if (iron == NOBODY) {
                    return;
                }
                inPlace[place] = iron;
                spot[iron] = FIRST_PLACE + place;
                timesHeated[iron]++;
            }
        }

        private int firstWaiting() {
            for (int position = 0; position < forge.irons; position++) {
                int iron = forge.order[position];
                if (spot[iron] == RACK && !isFinished(iron) && !isReady(iron)) {
                    return iron;
                }
            }
            return NOBODY;
        }

        private boolean isReady(int iron) {
            return workLeft[iron] > 0 && spot[iron] < FIRST_ANVIL
                && heat[iron] >= heatNeeded[iron] + forge.settings[MARGIN];
        }

        private boolean isFinished(int iron) {
            return workLeft[iron] == 0;
        }

        private boolean isInFire(int iron) {
            return spot[iron] >= FIRST_PLACE && spot[iron] < FIRST_ANVIL;
        }

        /**
         * Lets a minute pass. Answers false if no iron that has work was worked or changed its
         * temperature: every later minute would be like this one then.
         */
        boolean pass(int minute) {
            boolean moving = false;
            for (int iron = 0; iron < forge.irons; iron++) {
                int before = heat[iron];
                heat[iron] = isInFire(iron) ? warmed(iron, spot[iron] - FIRST_PLACE) : cooled(iron);
                moving |= heat[iron] != before && !isFinished(iron);
                if (spot[iron] >= FIRST_ANVIL) {
                    work(iron, minute);
                    moving = true;
                }
            }
            return moving;
        }

        private int cooled(int iron) {
            return Math.max(heat[iron] - forge.coolings[iron], ROOM_HEAT);
        }

        private int warmed(int iron, int place) {
            int limit = forge.limits[place];
            int mass = forge.masses[iron];
            if (heat[iron] >= limit || mass <= 0) {
                return heat[iron];
            }
            return Math.min(heat[iron] + forge.rates[place] / mass, limit);
        }

        private void work(int iron, int minute) {
            workLeft[iron]--;
            stepLeft[iron]--;
            if (stepLeft[iron] > 0) {
                return;
            }
            stepsDone[iron]++;
            if (isFinished(iron)) {
                finishedAt[iron] = minute + 1;
                unfinished--;
            } else {
                beginStep(iron);
            }
        }

        int endMinute() {
            int last = lastFinished();
            if (last != NOT_FOUND) {
                return finishedAt[last];
            }
            return unfinished > 0 ? NOT_FOUND : 0;
        }

        int lastFinished() {
            int last = NOT_FOUND;
            for (int iron = 0; unfinished == 0 && iron < forge.irons; iron++) {
                if (last == NOT_FOUND || finishedAt[iron] > finishedAt[last]) {
                    last = iron;
                }
            }
            return last;
        }
    }

    /** The whole run of a forge, with what can be asked about each of its minutes. */
    private static final class Log {
        final Forge forge;
        final Run run;
        final int[] heats = new int[MAX_IRONS * (RUN_MINUTES + 1)];
        final int[] steps = new int[MAX_IRONS * (RUN_MINUTES + 1)];
        final int[] spots = new int[MAX_IRONS * RUN_MINUTES];

        Log(Forge forge) {
            this.forge = forge;
            run = new Run(forge);
        }

        void write() {
            run.begin();
            writeState(0);
            for (int minute = 0; minute < RUN_MINUTES; minute++) {
                run.clearAnvils();
                run.fillAnvils();
                run.fillPlaces();
                writeSpots(minute);
                run.pass(minute);
                writeState(minute + 1);
            }
        }

        private void writeState(int minute) {
            for (int iron = 0; iron < forge.irons; iron++) {
                heats[iron * (RUN_MINUTES + 1) + minute] = run.heat[iron];
                steps[iron * (RUN_MINUTES + 1) + minute] = run.stepsDone[iron];
            }
        }

        private void writeSpots(int minute) {
            for (int iron = 0; iron < forge.irons; iron++) {
                spots[iron * RUN_MINUTES + minute] = run.spot[iron];
            }
        }

        int heatOf(int iron, int minute) {
            return heats[iron * (RUN_MINUTES + 1) + minute];
        }

        int stepsOf(int iron, int minute) {
            return steps[iron * (RUN_MINUTES + 1) + minute];
        }

        int spotOf(int iron, int minute) {
            return spots[iron * RUN_MINUTES + minute];
        }

        int greatestHeat(int iron) {
            int greatest = ROOM_HEAT;
            for (int minute = 0; minute <= RUN_MINUTES; minute++) {
                greatest = Math.max(greatest, heatOf(iron, minute));
            }
            return greatest;
        }

        int minutesInFire(int iron) {
            int sum = 0;
            for (int minute = 0; minute < RUN_MINUTES; minute++) {
                int spot = spotOf(iron, minute);
                if (spot >= FIRST_PLACE && spot < FIRST_ANVIL) {
                    sum++;
                }
            }
            return sum;
        }

        int minutesOnRack(int iron, int stepsToDo) {
            int sum = 0;
            for (int minute = 0; minute < RUN_MINUTES; minute++) {
                if (spotOf(iron, minute) == RACK && stepsOf(iron, minute) < stepsToDo) {
                    sum++;
                }
            }
            return sum;
        }

        int firstOnAnvil(int iron) {
            for (int minute = 0; minute < RUN_MINUTES; minute++) {
                if (spotOf(iron, minute) >= FIRST_ANVIL) {
                    return minute;
                }
            }
            return NOT_FOUND;
        }

        int minutesUsed(int spot) {
            int sum = 0;
            for (int minute = 0; minute < RUN_MINUTES; minute++) {
                if (ironOnSpot(spot, minute) != NOT_FOUND) {
                    sum++;
                }
            }
            return sum;
        }

        int ironOnSpot(int spot, int minute) {
            for (int iron = 0; iron < forge.irons; iron++) {
                if (spotOf(iron, minute) == spot) {
                    return iron;
                }
            }
            return NOT_FOUND;
        }

        int finishedAfter(int minute) {
            int sum = 0;
            for (int iron = 0; iron < forge.irons; iron++) {
                if (stepsOf(iron, minute) >= forge.steps[iron]) {
                    sum++;
                }
            }
            return sum;
        }

        int minutesIdle() {
            int sum = 0;
            for (int minute = 0; minute < RUN_MINUTES; minute++) {
                if (finishedAfter(minute) < forge.irons && anvilsUsed(minute) < forge.settings[ANVILS]) {
                    sum++;
                }
            }
            return sum;
        }

        private int anvilsUsed(int minute) {
            int sum = 0;
            for (int iron = 0; iron < forge.irons; iron++) {
                if (spotOf(iron, minute) >= FIRST_ANVIL) {
                    sum++;
                }
            }
            return sum;
        }
    }

    /** The order with which all irons are finished first, and how many orders are as good. */
    private static final class BestOrder {
        final int[] order = new int[MAX_IRONS];
        int earliest;
        int ties;

        /** Goes through the orders of a forge in lexicographic order, so that the first of equals is kept. */
        void search(Forge trial, Run run) {
            earliest = NOT_FOUND;
            ties = 0;
            trial.orderByIndex();
            boolean more = true;
            for (int tried = 0; tried < MAX_ORDERS && more; tried++) {
                int end = run.endWithin(earliest == NOT_FOUND ? RUN_MINUTES : earliest);
                if (end != NOT_FOUND) {
                    take(trial, end);
                }
                more = advance(trial);
            }
        }

        private void take(Forge trial, int end) {
            if (end == earliest) {
                ties++;
                return;
            }
            earliest = end;
            ties = 1;
            System.arraycopy(trial.order, 0, order, 0, MAX_IRONS);
        }

        /** Puts the next order into a forge; false if it has the last one. */
        private boolean advance(Forge trial) {
            int[] sequence = trial.order;
            int rise = trial.irons - 2;
            while (rise >= 0 && sequence[rise] > sequence[rise + 1]) {
                rise--;
            }
            if (rise < 0) {
                return false;
            }
            int greater = trial.irons - 1;
            while (greater > rise && sequence[greater] < sequence[rise]) {
                greater--;
            }
            trial.exchange(rise, greater);
            for (int left = rise + 1, right = trial.irons - 1; left < right; left++, right--) {
                trial.exchange(left, right);
            }
            return true;
        }
    }

    /** The input buffer, and the reading of the text in it. A word is held like a name: 5 bits a letter. */
    private static final class Reader {
        static final int END = 0, WORD = 1, NUMBER = 2, SEMICOLON = 3, OTHER = 4;
        static final int NO_WORD = 0;
        static final int MOST_LETTERS = 6;
        static final int BYTES_OF_FEED = 20;
        static final int BEYOND_ALL_RANGES = 100000;
        static final int IRON_WORD = ('i' & 31) << 25 | ('r' & 31) << 20 | ('o' & 31) << 15 | ('n' & 31) << 10;
        static final int STEP_WORD = ('s' & 31) << 25 | ('t' & 31) << 20 | ('e' & 31) << 15 | ('p' & 31) << 10;
        static final int PLACE_WORD = ('p' & 31) << 25 | ('l' & 31) << 20 | ('a' & 31) << 15 | ('c' & 31) << 10 | ('e' & 31) << 5;
        static final int SET_WORD = ('s' & 31) << 25 | ('e' & 31) << 20 | ('t' & 31) << 15;
        static final int ANVILS_WORD = ('a' & 31) << 25 | ('n' & 31) << 20 | ('v' & 31) << 15 | ('i' & 31) << 10 | ('l' & 31) << 5 | ('s' & 31);
        static final int MARGIN_WORD = ('m' & 31) << 25 | ('a' & 31) << 20 | ('r' & 31) << 15 | ('g' & 31) << 10 | ('i' & 31) << 5 | ('n' & 31);
        static final int RULE_WORD = ('r' & 31) << 25 | ('u' & 31) << 20 | ('l' & 31) << 15 | ('e' & 31) << 10;

        final byte[] bytes = new byte[MAX_BYTES];
        final Forge draft = new Forge();
        final boolean[] given = new boolean[SETTINGS];
        int size;
        int errorAt = NOT_FOUND;
        private int errorCode;
        private int end;
        private int position;
        private int tokenAt;
        private int tokenKind;
        private int tokenValue;

        boolean hasRoom() {
            return size + BYTES_OF_FEED <= MAX_BYTES;
        }

        void append(int fourBytes) {
            for (int shift = 24; shift >= 0 && size < MAX_BYTES; shift -= 8) {
                bytes[size] = (byte) (fourBytes >> shift);
                size++;
            }
        }

        /** Reads a text into the draft and empties the buffer; answers the number of statements or an error. */
        int readText(int length) {
            beginText(length);
            int statements = 0;
            nextToken();
            while (tokenKind != END && statements < length) {
                if (!readStatement() || !readSemicolon()) {
                    return errorCode;
                }
                statements++;
                nextToken();
            }
            return statements;
        }

        private void beginText(int length) {
            end = Math.min(length, size);
            size = 0;
            position = 0;
            errorAt = NOT_FOUND;
            draft.clear();
            for (int setting = 0; setting < SETTINGS; setting++) {
                given[setting] = false;
            }
        }

        private boolean readStatement() {
            if (tokenKind != WORD) {
                return fail(SYNTAX_ERROR);
            }
            switch (tokenValue) {
                case IRON_WORD:
                    return readIron();
                case STEP_WORD:
                    return readStep();
                case PLACE_WORD:
                    return readPlace();
                case SET_WORD:
                    return readSetting();
                default:
                    return fail(SYNTAX_ERROR);
            }
        }

        private boolean readIron() {
            if (draft.irons >= MAX_IRONS) {
                return fail(COUNT_ERROR);
            }
            if (!readName()) {
                return false;
            }
            int name = tokenValue;
            if (draft.findName(name) != NOT_FOUND) {
                return fail(DUPLICATE_ERROR);
            }
            if (!readNumber(LEAST_MASS, MOST_MASS)) {
                return false;
            }
            int mass = tokenValue;
            if (!readNumber(LEAST_COOLING, MOST_COOLING)) {
                return false;
            }
            draft.appendIron(name, mass, tokenValue);
            return true;
        }

        private boolean readStep() {
            if (!readName()) {
                return false;
            }
            int iron = draft.findName(tokenValue);
            if (iron == NOT_FOUND) {
                return fail(NAME_ERROR);
            }
            if (draft.steps[iron] >= MAX_STEPS) {
                return fail(COUNT_ERROR);
            }
            if (!readNumber(LEAST_HEAT, MOST_HEAT)) {
                return false;
            }
            int heat = tokenValue;
            if (!readNumber(LEAST_MINUTES, MOST_MINUTES)) {
                return false;
            }
            draft.appendStep(iron, heat, tokenValue);
            return true;
        }

        private boolean readPlace() {
            if (draft.places >= MAX_PLACES) {
                return fail(COUNT_ERROR);
            }
            if (!readNumber(LEAST_RATE, MOST_RATE)) {
                return false;
            }
            int rate = tokenValue;
            if (!readNumber(LEAST_LIMIT, MOST_LIMIT)) {
                return false;
            }
            draft.appendPlace(rate, tokenValue);
            return true;
        }

        private boolean readSetting() {
            nextToken();
            int setting = tokenKind == WORD ? settingOfWord(tokenValue) : NOT_FOUND;
            if (setting == NOT_FOUND) {
                return fail(SYNTAX_ERROR);
            }
            if (given[setting]) {
                return fail(DUPLICATE_ERROR);
            }
            if (!readNumber(LEAST_SETTING[setting], MOST_SETTING[setting])) {
                return false;
            }
            given[setting] = true;
            draft.settings[setting] = tokenValue;
            return true;
        }

        private boolean readName() {
            nextToken();
            boolean isName = tokenKind == WORD && tokenValue != NO_WORD && !isReserved(tokenValue);
            return isName || fail(SYNTAX_ERROR);
        }

        private boolean readNumber(int least, int most) {
            nextToken();
            if (tokenKind != NUMBER) {
                return fail(SYNTAX_ERROR);
            }
            return isWithin(tokenValue, least, most) || fail(RANGE_ERROR);
        }

        private boolean readSemicolon() {
            nextToken();
            return tokenKind == SEMICOLON || fail(SYNTAX_ERROR);
        }

        private boolean fail(int code) {
            errorCode = code;
            errorAt = tokenAt;
            return false;
        }

        private static boolean isReserved(int word) {
            return word == IRON_WORD || word == STEP_WORD || word == PLACE_WORD || word == SET_WORD
                || settingOfWord(word) != NOT_FOUND;
        }

        private static int settingOfWord(int word) {
            switch (word) {
                case ANVILS_WORD:
                    return ANVILS;
                case MARGIN_WORD:
                    return MARGIN;
                case RULE_WORD:
                    return RULE;
                default:
                    return NOT_FOUND;
            }
        }

        private void nextToken() {
            while (position < end && (bytes[position] == ' ' || bytes[position] == '\n')) {
                position++;
            }
            tokenAt = position;
            if (position >= end) {
                tokenKind = END;
            } else if (isWithin(bytes[position], 'a', 'z')) {
                takeWord();
            } else if (isWithin(bytes[position], '0', '9')) {
                takeNumber();
            } else {
                tokenKind = bytes[position] == ';' ? SEMICOLON : OTHER;
                position++;
            }
        }

        private void takeWord() {
            int word = 0;
            int letters = 0;
            while (position < end && bytes[position] >= 'a' && bytes[position] <= 'z') {
                if (letters < MOST_LETTERS) {
                    word |= (bytes[position] & 31) << (25 - 5 * letters);
                }
                letters++;
                position++;
            }
            tokenKind = WORD;
            tokenValue = letters <= MOST_LETTERS ? word : NO_WORD;
        }

        /** A number of any length may stand in the text, so digits that cannot matter any more are dropped. */
        private void takeNumber() {
            int number = 0;
            while (position < end && bytes[position] >= '0' && bytes[position] <= '9') {
                if (number < BEYOND_ALL_RANGES) {
                    number = number * 10 + (bytes[position] - '0');
                }
                position++;
            }
            tokenKind = NUMBER;
            tokenValue = number;
        }
    }
}

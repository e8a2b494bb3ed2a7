/**
 * Clocks of light over a continent, the links that compare them, and the time that is steered by them.
 * The promises that are named in the comments are those of the document.
 */
public final class TickFall {
    public static final int NONE = -1;
    public static final int JUMP = 0, MOVE = 1, REROUTE = 2, SLIP = 3;

    private static final int LAST_DAY = 500;
    private static final int MOST_DAYS_AT_ONCE = 50;
    private static final int MOST_CLOCKS = 6;
    private static final int MOST_LINKS = 8;
    private static final int MOST_EVENTS = 40;
    private static final int MOST_CALIBRATIONS = 10;
    /** As many as there are threes of eight links: more than can be rings, so a row of them never overflows. */
    private static final int MOST_RINGS = 56;

    private static final int MOST_RATE_SET = 500;
    private static final int MOST_RATE = 5000;
    private static final int MOST_HEIGHT = 5000;
    private static final int MOST_DRIFT = 20;
    private static final int MOST_WEIGHT = 100;
    private static final int MOST_ASYMMETRY = 50;
    private static final int MOST_JUMP = 500;
    private static final int MOST_SLIP = 3;
    private static final int MOST_CALIBRATION = 10000;
    private static final int MOST_DOUBT = 499;
    private static final int MOST_STEP = 1000;
    private static final int MOST_OWN_RATE = 1000;

    private static final int CYCLE = 1000;
    private static final int DRIFT_DAYS = 10;
    private static final int HOUSES = 7;
    private static final int HOUSES_TO_ADOPT = 5;

    private final Clocks clocks = new Clocks();
    private final Links links = new Links();
    private final Agenda agenda = new Agenda();
    private final Rings rings = new Rings();
    private final int[] steeredTimes = new int[LAST_DAY + 1];
    private final boolean[] votes = new boolean[HOUSES];
    private int today = 0;
    private int doubt = 100;
    private int step = 20;
    private boolean isAdopted = false;

    /** Promise 1: a continent without clocks, on the day 0. */
    public TickFall() {
    }

    // ---- clocks, links

    /** Promise 2: sets a clock up; answers its number. */
    public int clock(int rate, int height) throws IllegalArgumentException, IllegalStateException {
        if (!isWithin(rate, -MOST_RATE_SET, MOST_RATE_SET) || !isWithin(height, 0, MOST_HEIGHT)) {
            throw new IllegalArgumentException("rate or height is out of range");
        }
        if (clocks.count() >= MOST_CLOCKS) {
            throw new IllegalStateException("there are 6 clocks");
        }
        return clocks.add(rate, height);
    }

    /** Promise 3: sets the drift and the weight of a clock; answers the weight before. */
    public int tell(int clock, int drift, int weight) throws IndexOutOfBoundsException, IllegalArgumentException {
        if (!clocks.has(clock)) {
            throw new IndexOutOfBoundsException("there is no such clock");
        }
        if (!isWithin(drift, -MOST_DRIFT, MOST_DRIFT) || !isWithin(weight, 0, MOST_WEIGHT)) {
            throw new IllegalArgumentException("drift or weight is out of range");
        }
        int before = clocks.weightOf(clock);
        clocks.setDriftAndWeight(clock, drift, weight);
        return before;
    }

    /** Promise 4: lays a link; answers its number. */
    public int link(int first, int second, int asymmetry)
            throws IndexOutOfBoundsException, IllegalArgumentException, IllegalStateException {
        if (!clocks.has(first) || !clocks.has(second)) {
            throw new IndexOutOfBoundsException("there is no such clock");
        }
        if (first == second || !isWithin(asymmetry, -MOST_ASYMMETRY, MOST_ASYMMETRY)) {
            throw new IllegalArgumentException("both clocks are the same, or asymmetry is out of range");
        }
        if (links.count() >= MOST_LINKS) {
            throw new IllegalStateException("there are 8 links");
        }
        return links.add(first, second, asymmetry, today);
    }

    /** Promise 5: sets an event ahead; answers how many are to come. */
    public int event(int day, int kind, int number, int amount)
            throws IllegalArgumentException, IndexOutOfBoundsException, IllegalStateException {
        if (day <= today || day > LAST_DAY || !isWithin(kind, JUMP, SLIP)) {
            throw new IllegalArgumentException("day or kind is out of range");
        }
        boolean isOfClock = kind == JUMP || kind == MOVE;
        if (isOfClock ? !clocks.has(number) : !links.has(number)) {
            throw new IndexOutOfBoundsException("there is no such clock or link");
        }
        if (!isAmountOf(kind, amount) || agenda.count() >= MOST_EVENTS) {
            throw new IllegalStateException("amount is out of range, or 40 events are to come");
        }
        agenda.add(day, kind, number, amount);
        return agenda.count();
    }

    /** Promise 6: tells a calibration; answers how many the link has. */
    public int calibrate(int link, int from, int to, int amount)
            throws IndexOutOfBoundsException, IllegalArgumentException, IllegalStateException {
        if (!links.has(link)) {
            throw new IndexOutOfBoundsException("there is no such link");
        }
        if (!isWithin(from, 0, LAST_DAY) || !isWithin(to, from, LAST_DAY)
                || !isWithin(amount, -MOST_CALIBRATION, MOST_CALIBRATION)) {
            throw new IllegalArgumentException("from, to or amount is out of range");
        }
        if (links.calibrationsOf(link) >= MOST_CALIBRATIONS) {
            throw new IllegalStateException("the link has 10 calibrations");
        }
        return links.addCalibration(link, from, to, amount);
    }

    /** Promise 7: sets the doubt and the step. */
    public void bounds(int doubt, int step) throws IllegalArgumentException {
        if (!isWithin(doubt, 0, MOST_DOUBT) || !isWithin(step, 1, MOST_STEP)) {
            throw new IllegalArgumentException("doubt or step is out of range");
        }
        this.doubt = doubt;
        this.step = step;
    }

    /** Promise 8: lets days pass; answers the day then. */
    public int pass(int days) throws IllegalArgumentException, IllegalStateException {
        if (!isWithin(days, 1, MOST_DAYS_AT_ONCE)) {
            throw new IllegalArgumentException("days is out of range");
        }
        if (days > LAST_DAY - today) {
            throw new IllegalStateException("the day would be above 500");
        }
        for (int passed = 0; passed < days; passed++) {
            passOneDay();
        }
        return today;
    }

    /** Promise 9: a house votes; answers how many are for another second. */
    public int vote(int house, boolean is) throws IndexOutOfBoundsException {
        if (!isWithin(house, 0, HOUSES - 1)) {
            throw new IndexOutOfBoundsException("there is no such house");
        }
        votes[house] = is;
        return housesFor();
    }

    /** Promise 10: adopts another second, if that can be; answers whether it is adopted. */
    public boolean adopt() throws IllegalStateException {
        if (isAdopted || today == 0) {
            throw new IllegalStateException("it was adopted, or no day has passed");
        }
        isAdopted = housesFor() >= HOUSES_TO_ADOPT && openRings(today) == 0;
        return isAdopted;
    }

    // ---- what is asked

    /** Promise 11: the day. */
    public int day() {
        return today;
    }

    /** Promise 12: the phase (0), the rate (1) or the height (2) of a clock. */
    public int of(int clock, int what) throws IndexOutOfBoundsException, IllegalArgumentException {
        if (!clocks.has(clock)) {
            throw new IndexOutOfBoundsException("there is no such clock");
        }
        switch (what) {
            case 0:
                return clocks.phaseOf(clock);
            case 1:
                return clocks.rateOf(clock);
            case 2:
                return clocks.heightOf(clock);
            default:
                throw new IllegalArgumentException("what is out of range");
        }
    }

    /** Promise 13: what a link measured on a day, or what is corrected of it. */
    public int measured(int link, int day, boolean isCorrected) throws IndexOutOfBoundsException {
        if (!hasMeasured(link, day)) {
            throw new IndexOutOfBoundsException("there is no such link, or it did not measure on that day");
        }
        return isCorrected ? links.correctedOf(link, day) : links.rawOf(link, day);
    }

    /** Promise 14: how a ring closes. */
    public int closes(int one, int two, int three, int day)
            throws IndexOutOfBoundsException, IllegalArgumentException {
        if (!hasMeasured(one, day) || !hasMeasured(two, day) || !hasMeasured(three, day)) {
            throw new IndexOutOfBoundsException("there is no such link, or one did not measure on that day");
        }
        if (!links.areRing(one, two, three)) {
            throw new IllegalArgumentException("the links are no ring");
        }
        int lowest = Math.min(one, Math.min(two, three));
        int highest = Math.max(one, Math.max(two, three));
        int between = one + two + three - lowest - highest;
        return links.around(lowest, between, highest, day);
    }

    /** Promise 15: how many rings of links that measured on a day are not closed. */
    public int open(int day) throws IndexOutOfBoundsException {
        if (!hasPassed(day)) {
            throw new IndexOutOfBoundsException("there was no such day");
        }
        return openRings(day);
    }

    /** Promise 16: the slips of a day, as a number by 3; NONE if by no way all rings are closed. */
    public int slips(int day) throws IndexOutOfBoundsException {
        if (!hasPassed(day)) {
            throw new IndexOutOfBoundsException("there was no such day");
        }
        rings.gather(links, day);
        return rings.findSlips(links.count(), doubt);
    }

    /** Promise 17: the mean of a day. */
    public int mean(int day) throws IndexOutOfBoundsException {
        if (!hasPassed(day) || clocks.count() == 0) {
            throw new IndexOutOfBoundsException("there was no such day, or there is no clock");
        }
        return meanOrZero(day);
    }

    /** Promise 18: what was published of a day, or what it would be by all that is known now. */
    public int published(int day, boolean isAnew) throws IndexOutOfBoundsException {
        if (!hasPassed(day)) {
            throw new IndexOutOfBoundsException("there was no such day");
        }
        return isAnew ? steeredAnew(day) : steeredTimes[day];
    }

    /** Promise 19: by how much the first clock of a link is higher than the second one. */
    public int height(int link, int from, int to, int rate)
            throws IndexOutOfBoundsException, IllegalArgumentException {
        if (!hasMeasured(link, from) || !hasMeasured(link, to)) {
            throw new IndexOutOfBoundsException("there is no such link, or it did not measure on one of both days");
        }
        if (to <= from || !isWithin(rate, -MOST_OWN_RATE, MOST_OWN_RATE)) {
            throw new IllegalArgumentException("to is not behind from, or rate is out of range");
        }
        int days = to - from;
        long gained = (long) links.correctedOf(link, to) - links.correctedOf(link, from) - (long) rate * days;
        return (int) (100 * gained / days);
    }

    /** Promise 20: how many events are to come. */
    public int events() {
        return agenda.count();
    }

    // ---- how it is done

    private static boolean isWithin(int number, int lowest, int highest) {
        return number >= lowest && number <= highest;
    }

    private static int held(int number, int bound) {
        return Math.max(-bound, Math.min(bound, number));
    }

    private static boolean isAmountOf(int kind, int amount) {
        switch (kind) {
            case JUMP:
                return isWithin(amount, -MOST_JUMP, MOST_JUMP);
            case MOVE:
                return isWithin(amount, 0, MOST_HEIGHT);
            case REROUTE:
                return isWithin(amount, -MOST_ASYMMETRY, MOST_ASYMMETRY);
            case SLIP:
                return isWithin(amount, -MOST_SLIP, MOST_SLIP);
            default:
                return false;
        }
    }

    private boolean hasPassed(int day) {
        return isWithin(day, 1, today);
    }

    private boolean hasMeasured(int link, int day) {
        return hasPassed(day) && links.has(link) && links.isLaidBefore(link, day);
    }

    private void passOneDay() {
        int before = steeredTimes[today];
        today++;
        for (int left = agenda.count(); left > 0 && agenda.isNextDue(today); left--) {
            happen(agenda.takeNext());
        }
        clocks.run(today);
        links.measureAll(clocks, today);
        steeredTimes[today] = steered(before, today);
    }

    private void happen(int event) {
        int number = Agenda.numberOf(event);
        int amount = Agenda.amountOf(event);
        switch (Agenda.kindOf(event)) {
            case JUMP:
                clocks.addToRate(number, amount);
                break;
            case MOVE:
                clocks.setHeight(number, amount);
                break;
            case REROUTE:
                links.setAsymmetry(number, amount);
                break;
            default:
                links.addCycles(number, amount);
                break;
        }
    }

    private int housesFor() {
        int houses = 0;
        for (int house = 0; house < HOUSES; house++) {
            if (votes[house]) {
                houses++;
            }
        }
        return houses;
    }

    private int openRings(int day) {
        rings.gather(links, day);
        return rings.countOpen(doubt);
    }

    /** The mean of a day that has passed; 0 if there is no clock, as the steered time wants it. */
    private int meanOrZero(int day) {
        if (clocks.count() == 0) {
            return 0;
        }
        // The clock 0 is ahead of itself by nothing: it adds its weight alone.
        long weights = clocks.weightOf(0);
        long sum = 0;
        int met = 1;
        for (int link = 0; link < links.count(); link++) {
            int clock = links.otherThanZero(link);
            if (clock != NONE && (met >> clock & 1) == 0 && links.isLaidBefore(link, day)) {
                met |= 1 << clock;
                weights += clocks.weightOf(clock);
                sum += (long) clocks.weightOf(clock) * links.aheadOfZero(link, day);
            }
        }
        return weights == 0 ? 0 : (int) (sum / weights);
    }

    private int steered(int before, int day) {
        return before + held(meanOrZero(day) - before, step);
    }

    private int steeredAnew(int day) {
        int time = 0;
        for (int past = 1; past <= day; past++) {
            time = steered(time, past);
        }
        return time;
    }

    /** The clocks, a row for each thing they have; callers give numbers of clocks that there are. */
    private static final class Clocks {
        private final int[] rates = new int[MOST_CLOCKS];
        private final int[] drifts = new int[MOST_CLOCKS];
        private final int[] weights = new int[MOST_CLOCKS];
        private final int[] heights = new int[MOST_CLOCKS];
        private final int[] phases = new int[MOST_CLOCKS];
        private int count = 0;

        int count() {
            return count;
        }

        boolean has(int clock) {
            return clock >= 0 && clock < count;
        }

        /** Adds a clock; the caller has seen that there is room. */
        int add(int rate, int height) {
            int clock = count;
            rates[clock] = rate;
            heights[clock] = height;
            weights[clock] = 1;
            count++;
            return clock;
        }

        int phaseOf(int clock) {
            return phases[clock];
        }

        int rateOf(int clock) {
            return rates[clock];
        }

        int heightOf(int clock) {
            return heights[clock];
        }

        int weightOf(int clock) {
            return weights[clock];
        }

        void setDriftAndWeight(int clock, int drift, int weight) {
            drifts[clock] = drift;
            weights[clock] = weight;
        }

        void setHeight(int clock, int height) {
            heights[clock] = height;
        }

        void addToRate(int clock, int amount) {
            rates[clock] = held(rates[clock] + amount, MOST_RATE);
        }

        void run(int today) {
            for (int clock = 0; clock < count; clock++) {
                phases[clock] += rates[clock] + heights[clock] / 100;
                if (today % DRIFT_DAYS == 0) {
                    addToRate(clock, drifts[clock]);
                }
            }
        }
    }

    /** The links, and what they measured; callers give numbers of links that there are, and days to 500. */
    private static final class Links {
        private final int[] firsts = new int[MOST_LINKS];
        private final int[] seconds = new int[MOST_LINKS];
        private final int[] asymmetries = new int[MOST_LINKS];
        private final int[] cycles = new int[MOST_LINKS];
        private final int[] laidOn = new int[MOST_LINKS];
        private final int[] calibrations = new int[MOST_LINKS];
        private final int[][] raw = new int[MOST_LINKS][LAST_DAY + 1];
        /** The amounts of all calibrations of a link, together, on each day, those to come too. */
        private final int[][] offsets = new int[MOST_LINKS][LAST_DAY + 1];
        private int count = 0;

        int count() {
            return count;
        }

        boolean has(int link) {
            return link >= 0 && link < count;
        }

        /** A link measures first on the day behind that on which it is laid, and on each from then on. */
        boolean isLaidBefore(int link, int day) {
            return laidOn[link] < day;
        }

        /** Adds a link; the caller has seen that there is room. */
        int add(int first, int second, int asymmetry, int today) {
            int link = count;
            firsts[link] = first;
            seconds[link] = second;
            asymmetries[link] = asymmetry;
            laidOn[link] = today;
            count++;
            return link;
        }

        void setAsymmetry(int link, int asymmetry) {
            asymmetries[link] = asymmetry;
        }

        void addCycles(int link, int amount) {
            cycles[link] += amount;
        }

        int calibrationsOf(int link) {
            return calibrations[link];
        }

        int addCalibration(int link, int from, int to, int amount) {
            for (int day = from; day <= to; day++) {
                offsets[link][day] += amount;
            }
            calibrations[link]++;
            return calibrations[link];
        }

        void measureAll(Clocks clocks, int today) {
            for (int link = 0; link < count; link++) {
                int ahead = clocks.phaseOf(firsts[link]) - clocks.phaseOf(seconds[link]);
                raw[link][today] = ahead + asymmetries[link] + CYCLE * cycles[link];
            }
        }

        int rawOf(int link, int day) {
            return raw[link][day];
        }

        int correctedOf(int link, int day) {
            return raw[link][day] - offsets[link][day];
        }

        /** The clock that the link has beside the clock 0; NONE if it is not of the clock 0. */
        int otherThanZero(int link) {
            if (firsts[link] == 0) {
                return seconds[link];
            }
            return seconds[link] == 0 ? firsts[link] : NONE;
        }

        /** How much the other clock of a link of the clock 0 is ahead of that. */
        int aheadOfZero(int link, int day) {
            int corrected = correctedOf(link, day);
            return firsts[link] == 0 ? -corrected : corrected;
        }

        /** In a ring, and only there, each clock is in two of the links, so that all clocks cancel out. */
        boolean areRing(int one, int two, int three) {
            return (bothBits(one) ^ bothBits(two) ^ bothBits(three)) == 0;
        }

        private int bothBits(int link) {
            return 1 << firsts[link] | 1 << seconds[link];
        }

        /** Whether another link of a ring is gone through from its first clock (1) or its second one (-1). */
        int signBehind(int lowest, int other) {
            return firsts[other] == seconds[lowest] || seconds[other] == firsts[lowest] ? 1 : -1;
        }

        int around(int lowest, int between, int highest, int day) {
            return correctedOf(lowest, day)
                    + signBehind(lowest, between) * correctedOf(between, day)
                    + signBehind(lowest, highest) * correctedOf(highest, day);
        }
    }

    /**
     * The events to come. Each is one number, made so that of two the lower one comes first:
     * from the top the day, the kind, the number of the clock or link, and the amount, made 0 or more.
     */
    private static final class Agenda {
        private static final int AMOUNT_BITS = 13;
        private static final int NUMBER_BITS = 3;
        private static final int KIND_BITS = 2;
        private static final int NUMBER_AT = AMOUNT_BITS;
        private static final int KIND_AT = NUMBER_AT + NUMBER_BITS;
        private static final int DAY_AT = KIND_AT + KIND_BITS;

        /** From the last one to the next one, so that taking the next one moves no other. */
        private final int[] rows = new int[MOST_EVENTS];
        private int count = 0;

        static int kindOf(int event) {
            return event >> KIND_AT & (1 << KIND_BITS) - 1;
        }

        static int numberOf(int event) {
            return event >> NUMBER_AT & (1 << NUMBER_BITS) - 1;
        }

        static int amountOf(int event) {
            return (event & (1 << AMOUNT_BITS) - 1) - MOST_JUMP;
        }

        int count() {
            return count;
        }

        /** Adds an event; the caller has seen that there is room. */
        void add(int day, int kind, int number, int amount) {
            int event = day << DAY_AT | kind << KIND_AT | number << NUMBER_AT | amount + MOST_JUMP;
            int place = count;
            while (place > 0 && rows[place - 1] < event) {
                rows[place] = rows[place - 1];
                place--;
            }
            rows[place] = event;
            count++;
        }

        boolean isNextDue(int today) {
            return count > 0 && rows[count - 1] >> DAY_AT <= today;
        }

        /** Takes the next event away; the caller has seen that there is one. */
        int takeNext() {
            count--;
            return rows[count];
        }
    }

    /** The rings of one day, gathered for each question anew into the same rows, and the search for slips. */
    private static final class Rings {
        private final int[] lowest = new int[MOST_RINGS];
        private final int[] between = new int[MOST_RINGS];
        private final int[] highest = new int[MOST_RINGS];
        private final int[] betweenSigns = new int[MOST_RINGS];
        private final int[] highestSigns = new int[MOST_RINGS];
        private final int[] sums = new int[MOST_RINGS];
        private int count = 0;

        private final boolean[] isInRing = new boolean[MOST_LINKS];
        private final int[] taken = new int[MOST_LINKS];
        private int doubt = 0;
        private int fewest = 0;
        private int found = NONE;

        void gather(Links links, int day) {
            count = 0;
            for (int link = 0; link < MOST_LINKS; link++) {
                isInRing[link] = false;
            }
            for (int low = 0; low < links.count(); low++) {
                if (links.isLaidBefore(low, day)) {
                    gatherFrom(low, links, day);
                }
            }
        }

        private void gatherFrom(int low, Links links, int day) {
            for (int middle = low + 1; middle < links.count(); middle++) {
                for (int high = middle + 1; high < links.count(); high++) {
                    if (links.areRing(low, middle, high)
                            && links.isLaidBefore(middle, day) && links.isLaidBefore(high, day)) {
                        add(low, middle, high, links, day);
                    }
                }
            }
        }

        private void add(int low, int middle, int high, Links links, int day) {
            if (count >= MOST_RINGS) {
                return;
            }
            lowest[count] = low;
            between[count] = middle;
            highest[count] = high;
            betweenSigns[count] = links.signBehind(low, middle);
            highestSigns[count] = links.signBehind(low, high);
            sums[count] = links.around(low, middle, high, day);
            isInRing[low] = true;
            isInRing[middle] = true;
            isInRing[high] = true;
            count++;
        }

        int countOpen(int doubt) {
            int open = 0;
            for (int ring = 0; ring < count; ring++) {
                if (Math.abs(sums[ring]) > doubt) {
                    open++;
                }
            }
            return open;
        }

        /** The number of the way to take cycles off that closes all rings gathered; NONE if there is none. */
        int findSlips(int links, int doubt) {
            this.doubt = doubt;
            fewest = links + 1;
            found = NONE;
            tryFrom(this, links - 1, 0, 0);
            return found;
        }

        /**
         * Tries all cycles of a link and of the lower ones; the higher links have theirs, which number tells.
         * From the highest link down, and with the lower cycle first, lower numbers are found first:
         * so a way with no fewer links than the one found is never better.
         */
        private static void tryFrom(Rings rings, int link, int number, int slipped) {
            if (slipped >= rings.fewest) {
                return;
            }
            if (link < 0) {
                rings.fewest = slipped;
                rings.found = number;
                return;
            }
            // A cycle of a link in no ring closes nothing: it would only be one link more.
            int most = rings.isInRing[link] ? 1 : 0;
            for (int cycle = -most; cycle <= most; cycle++) {
                rings.taken[link] = cycle;
                if (rings.areClosedAbove(link)) {
                    tryFrom(rings, link - 1, number * 3 + 1 + cycle, slipped + Math.abs(cycle));
                }
            }
        }

        /** Whether the rings are closed whose lowest link this is: of these all cycles are known. */
        private boolean areClosedAbove(int link) {
            for (int ring = 0; ring < count; ring++) {
                if (lowest[ring] == link && Math.abs(sums[ring] - CYCLE * takenOff(ring)) > doubt) {
                    return false;
                }
            }
            return true;
        }

        private int takenOff(int ring) {
            return taken[lowest[ring]]
                    + betweenSigns[ring] * taken[between[ring]]
                    + highestSigns[ring] * taken[highest[ring]];
        }
    }
}

import java.util.Arrays;

/**
 * The sentences of the document's terms that name a boundary case, each by a test of its own, worked out by hand.
 * What is refused, and by what exception, is in TickFallRangeTest.
 */
public final class TickFallEdgeTest {
    /** Stands for an answer that no ring of still clocks can have. */
    private static final int NO_RING = 9999;

    private static int wrong = 0;
    private static int asked = 0;
    private static String sentence = "";

    private interface Test {
        void run();
    }

    private static void due(String what, long got, long want) {
        asked++;
        if (got != want) {
            wrong++;
            System.out.println("\"" + sentence + "\": " + what + " is " + got + ", due is " + want);
        }
    }

    private static void due(String what, boolean got, boolean want) {
        due(what, got ? 1 : 0, want ? 1 : 0);
    }

    /** Whether a call answers by IndexOutOfBoundsException: there is nothing yet to ask for. */
    private static void nothingThere(String what, Test call) {
        boolean isThere = true;
        try {
            call.run();
        } catch (IndexOutOfBoundsException e) {
            // The machine's own exception for an array's index is not the one that the document names.
            isThere = e.getClass() != IndexOutOfBoundsException.class;
        }
        due(what, isThere, false);
    }

    private static void notNow(String what, Test call) {
        boolean isNow = true;
        try {
            call.run();
        } catch (IllegalStateException e) {
            isNow = false;
        }
        due(what, isNow, false);
    }

    private static TickFall still(int clocks) {
        TickFall x = new TickFall();
        for (int clock = 0; clock < clocks; clock++) {
            x.clock(0, 0);
        }
        return x;
    }

    private static TickFall one(int rate, int height) {
        TickFall x = new TickFall();
        x.clock(rate, height);
        return x;
    }

    private static void passTo(TickFall x, int day) {
        for (int rounds = 0; rounds < 10 && x.day() < day; rounds++) {
            x.pass(Math.min(50, day - x.day()));
        }
    }

    // ---- all numbers are whole

    private static void heightByHundred() {
        int[] heights = {0, 99, 100, 101, 199, 200, 4999, 5000};
        int[] more = {0, 0, 1, 1, 1, 2, 49, 50};
        for (int i = 0; i < heights.length; i++) {
            TickFall x = one(0, heights[i]);
            x.pass(1);
            due("the phase by the height " + heights[i], x.of(0, 0), more[i]);
            x.pass(1);
            due("the phase of the second day by the height " + heights[i], x.of(0, 0), 2 * more[i]);
            TickFall slow = one(-1, heights[i]);
            slow.pass(1);
            due("the phase by the rate -1 and the height " + heights[i], slow.of(0, 0), more[i] - 1);
        }
    }

    private static long meanOfTwo(int rate, int weightOfZero, int weightOfOne) {
        TickFall x = new TickFall();
        x.clock(0, 0);
        x.clock(rate, 0);
        x.tell(0, 0, weightOfZero);
        x.tell(1, 0, weightOfOne);
        x.link(1, 0, 0);
        x.pass(1);
        return x.mean(1);
    }

    private static void meanTowardsZero() {
        due("1 by 2", meanOfTwo(1, 1, 1), 0);
        due("-1 by 2", meanOfTwo(-1, 1, 1), 0);
        due("3 by 2", meanOfTwo(3, 1, 1), 1);
        due("-3 by 2", meanOfTwo(-3, 1, 1), -1);
        due("-4 by 2", meanOfTwo(-4, 1, 1), -2);
        due("-500 times 100 by 199", meanOfTwo(-500, 99, 100), -251);
        due("500 times 100 by 199", meanOfTwo(500, 99, 100), 251);
    }

    private static void heightTowardsZero() {
        TickFall x = still(2);
        x.link(0, 1, 0);
        x.pass(4);
        x.calibrate(0, 4, 4, -2);
        due("200 by 3", x.height(0, 1, 4, 0), 66);
        due("200 by 2", x.height(0, 2, 4, 0), 100);
        x.calibrate(0, 4, 4, 4);
        due("-200 by 3", x.height(0, 1, 4, 0), -66);
        due("-200 by 1", x.height(0, 3, 4, 0), -200);
        x.calibrate(0, 1, 3, -1);
        due("-300 by 3, by what is corrected on both days", x.height(0, 1, 4, 0), -100);
        due("0 by 2", x.height(0, 1, 3, 0), 0);
        due("-100 by 3, less the rate 1 on each of the days", x.height(0, 2, 4, 1), -250);
    }

    // ---- nothing there yet

    private static void nothingYet() {
        TickFall x = new TickFall();
        due("the day", x.day(), 0);
        due("the events to come", x.events(), 0);
        nothingThere("a clock", () -> x.of(0, 0));
        nothingThere("a clock to tell something of", () -> x.tell(0, 0, 1));
        nothingThere("clocks for a link", () -> x.link(0, 1, 0));
        nothingThere("a clock for an event", () -> x.event(1, TickFall.MOVE, 0, 0));
        nothingThere("a link for an event", () -> x.event(1, TickFall.REROUTE, 0, 0));
        nothingThere("a link to calibrate", () -> x.calibrate(0, 0, 500, 0));
        nothingThere("a day of open rings", () -> x.open(0));
        nothingThere("a day of slips", () -> x.slips(0));
        notNow("a second to adopt", x::adopt);
        due("a day that passes with nothing there", x.pass(1), 1);
        due("the events to come then", x.events(), 0);
        due("the open rings then", x.open(1), 0);
        due("the slips then", x.slips(1), 0);
        due("published then", x.published(1, false), 0);
        nothingThere("a link that measured then", () -> x.measured(0, 1, false));
        nothingThere("links that closed then", () -> x.closes(0, 1, 2, 1));
        nothingThere("a clock for the mean then", () -> x.mean(1));
    }

    private static void noEventYet() {
        TickFall x = one(3, 100);
        x.pass(50);
        due("the events to come", x.events(), 0);
        due("the phase, with no event", x.of(0, 0), 200);
        due("the first event", x.event(51, TickFall.JUMP, 0, 1), 1);
        x.pass(1);
        due("the events to come behind it", x.events(), 0);
        due("the phase, with one event", x.of(0, 0), 205);
        x.pass(1);
        due("the phase, with none more", x.of(0, 0), 210);
        due("the first event again", x.event(53, TickFall.JUMP, 0, -1), 1);
    }

    // ---- clocks

    private static void rateHeldUp() {
        TickFall x = one(500, 0);
        for (int jump = 0; jump < 8; jump++) {
            x.event(1, TickFall.JUMP, 0, 500);
        }
        x.event(1, TickFall.JUMP, 0, 499);
        x.event(2, TickFall.JUMP, 0, 1);
        x.event(3, TickFall.JUMP, 0, 1);
        x.event(4, TickFall.JUMP, 0, 500);
        x.event(5, TickFall.JUMP, 0, -1);
        x.event(6, TickFall.JUMP, 0, 2);
        int[] rates = {4999, 5000, 5000, 5000, 4999, 5000};
        int phase = 0;
        for (int day = 1; day <= 6; day++) {
            x.pass(1);
            phase += rates[day - 1];
            due("the rate of the day " + day, x.of(0, 1), rates[day - 1]);
            due("the phase of the day " + day, x.of(0, 0), phase);
        }
    }

    private static void rateHeldDown() {
        TickFall x = one(-500, 0);
        for (int jump = 0; jump < 8; jump++) {
            x.event(1, TickFall.JUMP, 0, -500);
        }
        x.event(1, TickFall.JUMP, 0, -499);
        x.event(2, TickFall.JUMP, 0, -1);
        x.event(3, TickFall.JUMP, 0, -1);
        x.event(4, TickFall.JUMP, 0, -500);
        x.event(5, TickFall.JUMP, 0, 1);
        x.event(6, TickFall.JUMP, 0, -2);
        int[] rates = {-4999, -5000, -5000, -5000, -4999, -5000};
        int phase = 0;
        for (int day = 1; day <= 6; day++) {
            x.pass(1);
            phase += rates[day - 1];
            due("the rate of the day " + day, x.of(0, 1), rates[day - 1]);
            due("the phase of the day " + day, x.of(0, 0), phase);
        }
    }

    /** The rate on the day 10, when it drifts from so much below the bound (or above that below 0). */
    private static TickFall drifted(int sign, int below, int drift) {
        TickFall x = one(sign * 500, 0);
        for (int jump = 0; jump < 8; jump++) {
            x.event(1, TickFall.JUMP, 0, sign * 500);
        }
        x.event(1, TickFall.JUMP, 0, sign * (500 - below));
        x.tell(0, sign * drift, 1);
        x.pass(10);
        return x;
    }

    private static void driftHeld() {
        for (int sign = -1; sign <= 1; sign += 2) {
            due("19 to a bound", drifted(sign, 20, 19).of(0, 1), sign * 4999);
            due("20 to a bound", drifted(sign, 20, 20).of(0, 1), sign * 5000);
            TickFall x = drifted(sign, 19, 20);
            due("20 beyond a bound", x.of(0, 1), sign * 5000);
            due("the phase, the drift behind it", x.of(0, 0), sign * 49810);
            x.pass(10);
            due("the rate held again", x.of(0, 1), sign * 5000);
            due("the phase by the rate held", x.of(0, 0), sign * 99810);
            x.tell(0, -sign, 1);
            x.pass(10);
            due("the rate back from the bound", x.of(0, 1), sign * 4999);
        }
    }

    private static void daysFromZero() {
        TickFall x = new TickFall();
        due("the day at first", x.day(), 0);
        due("the day then", x.pass(1), 1);
        due("the day", x.day(), 1);
        passTo(x, 500);
        due("the last day", x.day(), 500);
    }

    private static void clocksFromZero() {
        TickFall x = new TickFall();
        for (int clock = 0; clock < 6; clock++) {
            due("a clock", x.clock(10 * clock - 20, 100 * clock), clock);
        }
        notNow("a seventh clock", () -> x.clock(0, 0));
        x.pass(1);
        for (int clock = 0; clock < 6; clock++) {
            due("the phase of the clock " + clock, x.of(clock, 0), 11 * clock - 20);
            due("the rate of the clock " + clock, x.of(clock, 1), 10 * clock - 20);
            due("the height of the clock " + clock, x.of(clock, 2), 100 * clock);
        }
        nothingThere("the clock 6", () -> x.of(6, 0));
    }

    private static void zeroAtFirst() {
        TickFall x = one(-7, 0);
        due("the phase at first", x.of(0, 0), 0);
        x.pass(10);
        due("the rate by the drift at first", x.of(0, 1), -7);
        due("the phase then", x.of(0, 0), -70);
        x.clock(9, 500);
        due("the phase of a late clock at first", x.of(1, 0), 0);
        x.pass(10);
        due("the phase of a late clock", x.of(1, 0), 140);
        due("the rate of a late clock by the drift at first", x.of(1, 1), 9);
    }

    private static void eventsComeFirst() {
        TickFall x = still(2);
        x.link(0, 1, 0);
        x.event(2, TickFall.JUMP, 0, 7);
        x.event(2, TickFall.MOVE, 1, 300);
        x.event(2, TickFall.REROUTE, 0, 11);
        x.event(2, TickFall.SLIP, 0, 1);
        x.pass(1);
        due("the phase on the day ahead of a jump", x.of(0, 0), 0);
        due("the phase on the day ahead of a move", x.of(1, 0), 0);
        due("what was measured on the day ahead", x.measured(0, 1, false), 0);
        due("the events to come on the day ahead", x.events(), 4);
        x.pass(1);
        due("the phase on the day of a jump", x.of(0, 0), 7);
        due("the phase on the day of a move", x.of(1, 0), 3);
        due("what was measured on the day", x.measured(0, 2, false), 7 - 3 + 11 + 1000);
        due("the events to come", x.events(), 0);
        x.pass(1);
        due("the phase a day later", x.of(0, 0), 14);
        due("what was measured a day later", x.measured(0, 3, false), 14 - 6 + 11 + 1000);
    }

    private static void tenDivides() {
        TickFall x = one(0, 0);
        x.tell(0, 1, 1);
        int[] days = {9, 10, 11, 19, 20, 21, 99, 100, 101, 499, 500};
        for (int day : days) {
            passTo(x, day);
            due("the rate of the day " + day, x.of(0, 1), day / 10);
        }
        TickFall y = one(0, 0);
        y.tell(0, -20, 1);
        y.event(10, TickFall.JUMP, 0, 3);
        y.pass(10);
        due("the phase of the day 10, a jump ahead of it and the drift behind it", y.of(0, 0), 3);
        due("the rate of the day 10", y.of(0, 1), -17);
        y.pass(1);
        due("the phase of the day 11", y.of(0, 0), -14);
    }

    // ---- events

    private static void earlierDayFirst() {
        TickFall x = one(0, 0);
        x.event(500, TickFall.MOVE, 0, 500);
        x.event(3, TickFall.MOVE, 0, 300);
        x.event(2, TickFall.MOVE, 0, 5000);
        x.event(4, TickFall.MOVE, 0, 0);
        x.event(1, TickFall.MOVE, 0, 100);
        int[] heights = {100, 5000, 300, 0, 0};
        for (int day = 1; day <= 5; day++) {
            x.pass(1);
            due("the height of the day " + day, x.of(0, 2), heights[day - 1]);
        }
        due("the events to come", x.events(), 1);
        passTo(x, 499);
        due("the height of the day 499", x.of(0, 2), 0);
        x.pass(1);
        due("the height of the day 500", x.of(0, 2), 500);
        due("the events to come on the day 500", x.events(), 0);
    }

    private static void lowerKindFirst() {
        int[][] events = {{TickFall.JUMP, 0}, {TickFall.MOVE, 5000}, {TickFall.REROUTE, -50}, {TickFall.SLIP, -3}};
        for (int first = 0; first < 4; first++) {
            TickFall x = still(2);
            x.link(1, 0, 1);
            for (int i = 0; i < 4; i++) {
                int[] event = events[(first + i) % 4];
                x.event(1, event[0], 0, event[1]);
            }
            x.event(1, TickFall.SLIP, 0, 3);
            x.event(1, TickFall.MOVE, 0, 4900);
            x.pass(1);
            due("the height, set in the order " + first, x.of(0, 2), 5000);
            due("what was measured, set in the order " + first, x.measured(0, 1, false), -50 - 50);
        }
    }

    private static TickFall atBound(int sign) {
        TickFall x = one(sign * 500, 0);
        for (int jump = 0; jump < 9; jump++) {
            x.event(1, TickFall.JUMP, 0, sign * 500);
        }
        x.pass(1);
        return x;
    }

    private static void lowerAmountFirst() {
        int[][] orders = {{500, -500}, {-500, 500}};
        for (int[] order : orders) {
            TickFall up = atBound(1);
            TickFall down = atBound(-1);
            TickFall x = still(2);
            x.link(0, 1, 0);
            for (int amount : order) {
                up.event(2, TickFall.JUMP, 0, amount);
                down.event(2, TickFall.JUMP, 0, amount);
                x.event(2, TickFall.MOVE, 0, 2500 + amount);
                x.event(2, TickFall.REROUTE, 0, amount / 10);
            }
            up.pass(1);
            down.pass(1);
            x.pass(2);
            due("a rate at the bound, less 500 first", up.of(0, 1), 5000);
            due("a rate at the bound below 0, less 500 first", down.of(0, 1), -4500);
            due("the height, the higher amount last", x.of(0, 2), 3000);
            due("the asymmetry, the higher amount last", x.measured(0, 2, false) - x.of(0, 0), 50);
        }
    }

    private static void ofTheSameDayOneClockEach() {
        TickFall x = still(3);
        x.event(1, TickFall.JUMP, 2, -5);
        x.event(1, TickFall.JUMP, 0, 500);
        x.event(1, TickFall.JUMP, 1, -500);
        x.event(1, TickFall.JUMP, 2, 6);
        x.pass(1);
        due("the rate of the clock 0", x.of(0, 1), 500);
        due("the rate of the clock 1", x.of(1, 1), -500);
        due("the rate of the clock 2", x.of(2, 1), 1);
    }

    private static void fortyToCome() {
        TickFall x = still(2);
        x.link(0, 1, 0);
        for (int event = 1; event <= 40; event++) {
            due("events to come", x.event(event <= 39 ? 2 : 1, TickFall.SLIP, 0, 1), event);
        }
        notNow("a 41st event to come", () -> x.event(2, TickFall.SLIP, 0, 1));
        due("the events to come", x.events(), 40);
        x.pass(1);
        due("the events to come behind one", x.events(), 39);
        due("one in its place", x.event(2, TickFall.SLIP, 0, 1), 40);
        notNow("again a 41st event to come", () -> x.event(3, TickFall.SLIP, 0, 1));
        x.pass(1);
        due("the events to come behind all", x.events(), 0);
        due("the cycles of one", x.measured(0, 1, false), 1000);
        due("the cycles of all", x.measured(0, 2, false), 41000);
        for (int event = 1; event <= 40; event++) {
            due("events to come once more", x.event(500, TickFall.SLIP, 0, -3), event);
        }
        notNow("once more a 41st event to come", () -> x.event(500, TickFall.SLIP, 0, -3));
    }

    // ---- links

    private static void linksFromZero() {
        TickFall x = still(3);
        for (int link = 0; link < 8; link++) {
            due("a link", x.link(link % 3, (link + 1) % 3, link - 4), link);
        }
        notNow("a ninth link", () -> x.link(0, 1, 0));
        x.pass(1);
        for (int link = 0; link < 8; link++) {
            due("what was measured by the link " + link, x.measured(link, 1, false), link - 4);
        }
        nothingThere("the link 8", () -> x.measured(8, 1, false));
        nothingThere("the link -1", () -> x.measured(-1, 1, false));
    }

    private static void measuredTogether() {
        TickFall x = new TickFall();
        x.clock(500, 5000);
        x.clock(-500, 0);
        x.link(0, 1, -50);
        x.link(1, 0, 50);
        x.event(2, TickFall.SLIP, 0, -3);
        x.event(2, TickFall.SLIP, 1, 3);
        x.event(3, TickFall.SLIP, 0, 3);
        x.pass(3);
        due("of the first day, no slips", x.measured(0, 1, false), 1050 - 50);
        due("of the first day, the other way", x.measured(1, 1, false), -1050 + 50);
        due("with 3 cycles below 0", x.measured(0, 2, false), 2100 - 50 - 3000);
        due("with 3 cycles", x.measured(1, 2, false), -2100 + 50 + 3000);
        due("with none again", x.measured(0, 3, false), 3150 - 50);
        due("with 3 cycles still", x.measured(1, 3, false), -3150 + 50 + 3000);
    }

    private static void measuresAtTheEndOfEachDay() {
        TickFall x = new TickFall();
        x.clock(1, 0);
        x.clock(0, 0);
        x.link(0, 1, 0);
        nothingThere("the day 0", () -> x.measured(0, 0, false));
        nothingThere("the day 1 that has not passed", () -> x.measured(0, 1, false));
        x.pass(50);
        x.link(0, 1, 9);
        nothingThere("the day on which the link was laid", () -> x.measured(1, 50, false));
        nothingThere("the day behind that, not passed yet", () -> x.measured(1, 51, false));
        x.pass(1);
        due("the first day of the late link", x.measured(1, 51, false), 60);
        nothingThere("the day on which the link was laid, later", () -> x.measured(1, 50, true));
        passTo(x, 500);
        for (int day = 1; day <= 500; day += day == 1 ? 48 : 50) {
            due("what was measured on the day " + day, x.measured(0, day, false), day);
        }
        due("what was measured on the day 500", x.measured(0, 500, false), 500);
        due("what the late link measured on the day 500", x.measured(1, 500, true), 509);
        nothingThere("the day 501", () -> x.measured(0, 501, false));
    }

    private static void measuredStays() {
        TickFall x = one(5, 0);
        x.clock(0, 0);
        x.link(0, 1, 1);
        x.pass(1);
        x.event(2, TickFall.JUMP, 0, 100);
        x.event(2, TickFall.MOVE, 1, 5000);
        x.event(2, TickFall.REROUTE, 0, 50);
        x.event(2, TickFall.SLIP, 0, 3);
        x.calibrate(0, 0, 500, 7);
        due("the day 1, all set ahead", x.measured(0, 1, false), 6);
        x.pass(50);
        due("the day 1, much later", x.measured(0, 1, false), 6);
        due("the day 1 corrected", x.measured(0, 1, true), -1);
    }

    private static void spanOfDays() {
        TickFall x = still(2);
        x.link(0, 1, 0);
        x.pass(4);
        x.calibrate(0, 2, 3, 1);
        int[] due = {0, -1, -1, 0};
        for (int day = 1; day <= 4; day++) {
            due("the day " + day + " by a span of 2 and 3", x.measured(0, day, true), due[day - 1]);
        }
        x.calibrate(0, 4, 4, 10);
        due("the day 3 by a span of 4", x.measured(0, 3, true), -1);
        due("the day 4 by a span of it alone", x.measured(0, 4, true), -10);
        x.calibrate(0, 0, 0, 100);
        due("the day 1 by a span of 0", x.measured(0, 1, true), 0);
        x.calibrate(0, 0, 1, 10000);
        x.calibrate(0, 0, 500, -10000);
        due("the day 1 by two spans", x.measured(0, 1, true), 0);
        due("the day 2 by two spans", x.measured(0, 2, true), 9999);
        x.calibrate(0, 500, 500, 3);
        x.calibrate(0, 499, 499, 5);
        passTo(x, 500);
        due("the day 498", x.measured(0, 498, true), 10000);
        due("the day 499", x.measured(0, 499, true), 9995);
        due("the day 500", x.measured(0, 500, true), 9997);
        due("the day 500, not corrected", x.measured(0, 500, false), 0);
    }

    private static void tenCalibrationsOfALink() {
        TickFall x = still(2);
        x.link(0, 1, 0);
        x.link(0, 1, 0);
        x.pass(1);
        for (int told = 1; told <= 10; told++) {
            due("calibrations of the link 1", x.calibrate(1, 1, 1, told == 10 ? -10000 : 10000), told);
        }
        notNow("an 11th calibration", () -> x.calibrate(1, 0, 0, 0));
        due("the first one of the link 0", x.calibrate(0, 0, 1, 1), 1);
        due("what is corrected by all ten", x.measured(1, 1, true), -80000);
        due("what is corrected by the one", x.measured(0, 1, true), -1);
    }

    // ---- rings

    /** A ring of the links 0 to 2, all gone through from their first clock, that closes by a sum on the day 1. */
    private static TickFall ring(int sum) {
        TickFall x = still(3);
        x.link(0, 1, 0);
        x.link(1, 2, 0);
        x.link(2, 0, 0);
        x.calibrate(0, 1, 1, -sum);
        x.pass(1);
        return x;
    }

    /** How the links 0 to 2, told by two clocks each, close on the day 1; NO_RING if they are none. */
    private static long closing(int... clocks) {
        TickFall x = still(4);
        int[] amounts = {1, 10, 40};
        for (int link = 0; link < 3; link++) {
            x.link(clocks[2 * link], clocks[2 * link + 1], amounts[link]);
        }
        x.pass(1);
        due("the open rings of " + Arrays.toString(clocks), x.open(1), 0);
        try {
            return x.closes(0, 1, 2, 1);
        } catch (IllegalArgumentException e) {
            return NO_RING;
        }
    }

    private static void areARing() {
        due("around", closing(0, 1, 1, 2, 2, 0), 51);
        due("of the clocks 1 to 3", closing(3, 1, 1, 2, 2, 3), 51);
        due("a row", closing(0, 1, 1, 2, 2, 3), NO_RING);
        due("a star", closing(0, 1, 0, 2, 0, 3), NO_RING);
        due("three by the same clocks", closing(0, 1, 1, 0, 0, 1), NO_RING);
        due("two by the same clocks and one more", closing(0, 1, 1, 2, 2, 1), NO_RING);
        due("the first and the last by the same clocks", closing(0, 1, 1, 2, 1, 0), NO_RING);
        due("two by the same clocks and one apart", closing(0, 1, 0, 1, 2, 3), NO_RING);
    }

    private static void goneAround() {
        due("the lowest link backwards", closing(1, 0, 1, 2, 2, 0), 1 - 10 - 40);
        due("the second one backwards", closing(0, 1, 2, 1, 2, 0), 1 - 10 + 40);
        due("the third one backwards", closing(0, 1, 1, 2, 0, 2), 1 + 10 - 40);
        due("the second one last, around", closing(0, 1, 2, 0, 1, 2), 1 + 10 + 40);
        due("the second one last, backwards", closing(0, 1, 0, 2, 1, 2), 1 - 10 + 40);
        due("both others backwards", closing(0, 1, 2, 1, 0, 2), 1 - 10 - 40);
    }

    private static void lowestLinkFirst() {
        TickFall x = still(3);
        x.link(1, 0, 1);
        x.link(1, 2, 10);
        x.link(2, 0, 40);
        x.pass(1);
        int[][] orders = {{0, 1, 2}, {0, 2, 1}, {1, 0, 2}, {1, 2, 0}, {2, 0, 1}, {2, 1, 0}};
        for (int[] order : orders) {
            due("told as " + Arrays.toString(order), x.closes(order[0], order[1], order[2], 1), -49);
        }
    }

    private static void notAboveTheDoubt() {
        int[] sums = {0, 100, -100, 101, -101, 99, -99};
        int[] open = {0, 0, 0, 1, 1, 0, 0};
        for (int i = 0; i < sums.length; i++) {
            TickFall x = ring(sums[i]);
            due("how the ring closes", x.closes(0, 1, 2, 1), sums[i]);
            due("with the doubt at first, the open rings by " + sums[i], x.open(1), open[i]);
        }
        for (int sign = -1; sign <= 1; sign += 2) {
            TickFall x = ring(sign);
            x.bounds(0, 1);
            due("by 1 beyond the doubt 0", x.open(1), 1);
            x.bounds(1, 1);
            due("by 1 at the doubt 1", x.open(1), 0);
            TickFall y = ring(sign * 499);
            y.bounds(499, 1);
            due("by 499 at the doubt 499", y.open(1), 0);
            y.bounds(498, 1);
            due("by 499 beyond the doubt 498", y.open(1), 1);
            TickFall z = ring(sign * 500);
            z.bounds(499, 1);
            due("by 500 beyond the doubt 499", z.open(1), 1);
        }
        TickFall none = ring(0);
        none.bounds(0, 1);
        due("by 0 at the doubt 0", none.open(1), 0);
    }

    private static void ringsOfLinksThatMeasured() {
        TickFall x = ring(500);
        x.link(0, 1, 0);
        due("a late link is in no ring of the day 1", x.open(1), 1);
        nothingThere("how the ring of the late link closes", () -> x.closes(1, 2, 3, 1));
        x.calibrate(1, 2, 2, 500);
        x.pass(1);
        due("the open rings of the day 2", x.open(2), 2);
        due("the open rings of the day 1", x.open(1), 1);
        due("how the ring of the late link closes", x.closes(1, 2, 3, 2), -500);
        TickFall empty = new TickFall();
        nothingThere("the open rings of the day 0", () -> empty.open(0));
        empty.pass(1);
        due("the open rings without links", empty.open(1), 0);
    }

    private static void mostRings() {
        TickFall x = still(3);
        for (int link = 0; link < 8; link++) {
            x.link(link % 3, (link + 1) % 3, link < 3 ? 50 : 49);
        }
        x.pass(1);
        x.bounds(146, 20);
        due("the rings of 3, 3 and 2 links, all open", x.open(1), 18);
        x.bounds(147, 20);
        due("but those of three late links", x.open(1), 18 - 4);
        x.bounds(149, 20);
        due("but the first one alone", x.open(1), 1);
    }

    // ---- slips

    private static void oneCycleEachWay() {
        int[] sums = {0, 1000, -1000, 2000, -2000, 3000, -3000, 4000, -4000};
        int[] numbers = {13, 14, 4, 17, 1, 26, 0, -1, -1};
        for (int i = 0; i < sums.length; i++) {
            due("the slips of a ring by " + sums[i], ring(sums[i]).slips(1), numbers[i]);
        }
    }

    private static long slipsBy(int sum, int doubt) {
        TickFall x = ring(sum);
        x.bounds(doubt, 20);
        return x.slips(1);
    }

    private static void slipsByTheDoubt() {
        int[] sums = {100, 101, 899, 900, 1100, 1101, -100, -101, -899, -900, -1100, -1101};
        int[] numbers = {13, -1, -1, 14, 14, -1, 13, -1, -1, 4, 4, -1};
        for (int i = 0; i < sums.length; i++) {
            due("by " + sums[i] + " with the doubt at first", ring(sums[i]).slips(1), numbers[i]);
        }
        int[] far = {499, 500, 501, 1499, 1500, 1501, 3499, 3500, -499, -500, -501, -1501, -3499, -3500};
        int[] farNumbers = {13, -1, 14, 14, -1, 17, 26, -1, 13, -1, 4, 1, 0, -1};
        for (int i = 0; i < far.length; i++) {
            due("by " + far[i] + " with the doubt 499", slipsBy(far[i], 499), farNumbers[i]);
        }
        due("by 1 with the doubt 0", slipsBy(1, 0), TickFall.NONE);
        due("by 999 with the doubt 0", slipsBy(999, 0), TickFall.NONE);
        due("by 1000 with the doubt 0", slipsBy(1000, 0), 14);
        due("by 1001 with the doubt 0", slipsBy(1001, 0), TickFall.NONE);
    }

    private static void fewestLinks() {
        TickFall x = still(4);
        x.link(0, 1, 0);
        x.link(1, 2, 0);
        x.link(2, 0, 0);
        x.link(1, 3, 0);
        x.link(3, 0, 0);
        x.event(1, TickFall.SLIP, 0, -1);
        x.event(2, TickFall.SLIP, 0, 1);
        x.event(2, TickFall.SLIP, 1, 1);
        x.event(2, TickFall.SLIP, 3, 1);
        x.event(3, TickFall.SLIP, 3, -1);
        x.pass(3);
        due("one link of both rings, not two with a lower number", x.slips(1), 121 - 1);
        due("one link of both rings, not the two that slipped", x.slips(2), 121 + 1);
        due("one link of the one ring", x.slips(3), 121 + 3);
    }

    private static void lowerNumber() {
        TickFall x = still(3);
        x.link(0, 1, 0);
        x.link(1, 2, 0);
        x.link(0, 2, 0);
        x.event(1, TickFall.SLIP, 0, 1);
        x.event(2, TickFall.SLIP, 0, -2);
        x.pass(2);
        due("a cycle below 0 of a link gone through backwards", x.slips(1), 4);
        due("a cycle below 0 of the link 1, not one of the link 2", x.slips(2), 10);
    }

    private static void figuresOfAllLinksNow() {
        TickFall empty = still(2);
        empty.pass(1);
        due("without links", empty.slips(1), 0);
        int figures = 0;
        for (int link = 0; link < 8; link++) {
            empty.link(0, 1, 0);
            figures = figures * 3 + 1;
            due("of " + (link + 1) + " links, none of which measured", empty.slips(1), figures);
        }
        TickFall x = ring(1000);
        due("of three links", x.slips(1), 14);
        x.link(0, 1, 0);
        due("with a link in a ring that did not measure", x.slips(1), 14 + 27);
        x.link(2, 1, 0);
        due("with two such links", x.slips(1), 14 + 27 + 81);
    }

    /** Two rings of six clocks, each with its first link twice: they close by no way but the cycles of all links. */
    private static void allLinksSlipped() {
        for (int sign = -1; sign <= 1; sign += 2) {
            TickFall x = still(6);
            int[] clocks = {0, 1, 1, 2, 2, 0, 3, 4, 4, 5, 5, 3, 0, 1, 3, 4};
            for (int link = 0; link < 8; link++) {
                x.link(clocks[2 * link], clocks[2 * link + 1], 0);
                x.event(1, TickFall.SLIP, link, sign);
            }
            x.event(2, TickFall.SLIP, 7, sign);
            x.pass(2);
            due("all eight links slipped by " + sign, x.slips(1), sign > 0 ? 6560 : 0);
            due("one of them twice", x.slips(2), TickFall.NONE);
        }
    }

    private static void byWhatIsCorrected() {
        TickFall x = still(3);
        x.link(0, 1, 0);
        x.link(1, 2, 0);
        x.link(2, 0, 0);
        x.event(2, TickFall.SLIP, 2, 2);
        x.pass(2);
        due("what was measured, two cycles", x.slips(2), 17);
        x.calibrate(2, 2, 2, 1000);
        due("corrected by one cycle", x.slips(2), 14);
        x.calibrate(2, 2, 500, 1000);
        due("corrected by both", x.slips(2), 13);
        x.calibrate(2, 1, 1, 10000);
        due("of the day 1, corrected by too much", x.slips(1), TickFall.NONE);
        due("of the day 2, as it was", x.slips(2), 13);
    }

    // ---- time

    private static void weightAtFirst() {
        TickFall x = one(0, 0);
        x.clock(9, 0);
        x.link(1, 0, 0);
        x.pass(1);
        due("the mean by the weights at first", x.mean(1), 4);
        due("the weight at first", x.tell(1, 0, 0), 1);
        due("the mean by the weights 1 and 0", x.mean(1), 0);
        due("the weight before, the lowest one", x.tell(1, 0, 100), 0);
        due("the mean by the weights 1 and 100", x.mean(1), 8);
        due("the weight before, the highest one", x.tell(1, 0, 1), 100);
        due("the weight of the clock 0 at first", x.tell(0, 0, 0), 1);
        due("the mean by the weights 0 and 1", x.mean(1), 9);
    }

    private static void itselfAlone() {
        TickFall x = one(500, 5000);
        x.pass(1);
        due("of the clock 0 alone", x.mean(1), 0);
        x.clock(-500, 0);
        x.clock(0, 5000);
        x.link(1, 2, 50);
        x.pass(1);
        due("of the clock 0, without a link of it", x.mean(2), 0);
        x.link(2, 0, 0);
        due("of a day on which no link of it measured", x.mean(2), 0);
        x.pass(1);
        due("of the clocks 0 and 2, and not of the clock 1 behind it", x.mean(3), (50 + 50 - 3 * 550) / 2);
    }

    private static void measuredThen() {
        TickFall x = still(4);
        x.link(1, 0, 30);
        x.pass(1);
        x.link(2, 0, 50);
        x.link(0, 3, 50);
        x.calibrate(1, 0, 500, -10);
        due("without the links laid on the day", x.mean(1), 30 / 2);
        x.pass(1);
        due("with them a day later", x.mean(2), (30 + 60 - 50) / 4);
        due("without them still", x.mean(1), 30 / 2);
        due("as it would be, without them on the day 1", x.published(1, true), 15);
        due("as it would be, with them on the day 2", x.published(2, true), 10);
    }

    /** Six clocks as far apart as can be, of which the sum of each weight times the phases is above the ints. */
    private static void greatSums() {
        for (int sign = -1; sign <= 1; sign += 2) {
            TickFall x = one(-500 * sign, sign < 0 ? 5000 : 0);
            x.tell(0, -20 * sign, 0);
            for (int clock = 1; clock < 6; clock++) {
                x.clock(500 * sign, sign < 0 ? 0 : 5000);
                x.tell(clock, 20 * sign, 100);
                x.link(clock, 0, 50 * sign);
            }
            for (int event = 0; event < 9; event++) {
                x.event(1, TickFall.JUMP, 0, -500 * sign);
                for (int clock = 1; clock < 4; clock++) {
                    x.event(1, TickFall.JUMP, clock, 500 * sign);
                }
            }
            x.pass(1);
            for (int event = 0; event < 9; event++) {
                x.event(2, TickFall.JUMP, 4, 500 * sign);
                x.event(2, TickFall.JUMP, 5, 500 * sign);
            }
            passTo(x, 500);
            long far = 500 * 10050 + 50;
            due("the clock 1 by the clock 0", x.measured(0, 500, false), sign * far);
            // The clocks 4 and 5 jump a day later: they are 4500 behind the others.
            due("the mean", x.mean(500), sign * (500 * far - 200 * 4500) / 500);
            due("the height of the clock 1", x.height(0, 1, 500, 0), sign * 100 * 10050);
        }
    }

    private static void lowestLinkOfAClock() {
        TickFall x = still(3);
        x.link(1, 2, 50);
        x.link(0, 1, 8);
        x.link(1, 0, 20);
        x.link(2, 0, 30);
        x.link(0, 2, 40);
        x.pass(1);
        due("of the links 1 and 3", x.mean(1), (-8 + 30) / 3);
        x.calibrate(2, 1, 1, 5000);
        x.calibrate(4, 1, 1, 5000);
        x.calibrate(0, 1, 1, 5000);
        due("whatever the other links are corrected by", x.mean(1), 7);
        x.calibrate(1, 1, 1, 10);
        x.calibrate(3, 1, 1, 10);
        due("by what is corrected, either way", x.mean(1), (2 + 20) / 3);
    }

    private static void noWeights() {
        TickFall x = still(3);
        x.link(1, 0, 30);
        x.tell(0, 0, 0);
        x.tell(1, 0, 0);
        x.pass(1);
        due("with the weight of a clock that does not count", x.mean(1), 0);
        due("published then", x.published(1, false), 0);
        due("as it would be", x.published(1, true), 0);
        x.tell(1, 0, 1);
        due("with a weight", x.mean(1), 30);
        due("published as it was", x.published(1, false), 0);
        due("as it would be with a weight", x.published(1, true), 20);
    }

    /** The mean without weights is 0, and not what was published before: the time is steered back to 0. */
    private static void backToZero() {
        TickFall x = meanOf(50);
        x.pass(3);
        due("published with a weight", x.published(3, false), 50);
        x.tell(1, 0, 0);
        due("the mean without weights, of a day that has passed", x.mean(3), 0);
        x.pass(3);
        due("the mean without weights", x.mean(4), 0);
        due("published without weights", x.published(4, false), 30);
        due("a day later", x.published(5, false), 10);
        due("two days later", x.published(6, false), 0);
        due("as it would be", x.published(6, true), 0);
    }

    private static void allClocksOfTheMean() {
        TickFall x = still(6);
        for (int clock = 1; clock < 6; clock++) {
            x.link(clock, 0, 10 * clock);
            x.tell(clock, 0, 100);
        }
        x.tell(0, 0, 100);
        x.pass(1);
        due("of six clocks", x.mean(1), 150 / 6);
        x.tell(5, 0, 0);
        due("but the last one", x.mean(1), 100 / 5);
        x.tell(0, 0, 0);
        due("and the first one", x.mean(1), 100 / 4);
    }

    private static void noClock() {
        TickFall x = new TickFall();
        nothingThere("the mean of the day 0", () -> x.mean(0));
        nothingThere("published on the day 0", () -> x.published(0, false));
        x.pass(2);
        due("published without clocks", x.published(2, false), 0);
        due("as it would be without clocks", x.published(2, true), 0);
        nothingThere("the mean without clocks", () -> x.mean(2));
        x.clock(500, 0);
        due("the mean of a day without clocks, with one since", x.mean(2), 0);
        due("published without clocks, with one since", x.published(2, true), 0);
        nothingThere("the mean of the day behind", () -> x.mean(3));
    }

    /** A mean that stays as told, of the clock 1 alone. */
    private static TickFall meanOf(int mean) {
        TickFall x = still(2);
        x.tell(0, 0, 0);
        x.link(1, 0, 0);
        x.calibrate(0, 0, 500, -mean);
        return x;
    }

    private static void heldToTheStep() {
        int[] means = {0, 19, 20, 21, -19, -20, -21};
        int[] first = {0, 19, 20, 20, -19, -20, -20};
        for (int i = 0; i < means.length; i++) {
            TickFall x = meanOf(means[i]);
            x.pass(3);
            due("the mean", x.mean(1), means[i]);
            due("by the step at first, published of the mean " + means[i], x.published(1, false), first[i]);
            due("a day later", x.published(2, false), means[i]);
            due("two days later", x.published(3, false), means[i]);
            due("as it would be", x.published(1, true), first[i]);
        }
        for (int sign = -1; sign <= 1; sign += 2) {
            TickFall low = meanOf(2 * sign);
            low.bounds(100, 1);
            low.pass(3);
            due("the step 1", low.published(1, false), sign);
            due("the step 1 again", low.published(2, false), 2 * sign);
            due("the step 1 at the mean", low.published(3, false), 2 * sign);
            TickFall high = meanOf(1001 * sign);
            high.bounds(100, 1000);
            high.pass(2);
            due("the step 1000", high.published(1, false), 1000 * sign);
            due("the step 1000 again", high.published(2, false), 1001 * sign);
        }
    }

    private static void fromTheDayAhead() {
        TickFall x = meanOf(50);
        x.pass(2);
        x.calibrate(0, 0, 500, 100);
        x.pass(3);
        int[] published = {20, 40, 20, 0, -20};
        for (int day = 1; day <= 5; day++) {
            due("published of the day " + day, x.published(day, false), published[day - 1]);
            due("as it would be", x.published(day, true), Math.max(-50, -20 * day));
        }
    }

    private static void asItIsNow() {
        TickFall x = meanOf(-30);
        x.pass(2);
        x.bounds(100, 7);
        due("published", x.published(2, false), -30);
        due("as it would be by the step now", x.published(2, true), -14);
        x.tell(0, 0, 2);
        due("as it would be by the weights now", x.published(2, true), -10);
        due("of the day 1 by the weights now", x.published(1, true), -7);
        x.calibrate(0, 2, 2, -60);
        due("of the day 1 by a calibration of the day 2", x.published(1, true), -7);
        due("of the day 2 by it", x.published(2, true), 0);
        due("published still", x.published(2, false), -30);
        due("published of the day 1 still", x.published(1, false), -20);
        x.calibrate(0, 1, 1, -300);
        due("of the day 2 by a calibration of the day 1", x.published(2, true), 10);
        x.pass(1);
        due("published of the day 3, from what was published", x.published(3, false), -23);
        due("as it would be of the day 3", x.published(3, true), 3);
    }

    private static void publishedToTheLastDay() {
        TickFall x = meanOf(10000);
        passTo(x, 500);
        due("published of the day 1", x.published(1, false), 20);
        due("published of the day 499", x.published(499, false), 9980);
        due("published of the day 500", x.published(500, false), 10000);
        due("as it would be of the day 500", x.published(500, true), 10000);
        due("the mean of the day 500", x.mean(500), 10000);
        nothingThere("published of the day 501", () -> x.published(501, false));
        nothingThere("as it would be of the day 501", () -> x.published(501, true));
        nothingThere("the mean of the day 501", () -> x.mean(501));
    }

    // ---- the second

    private static void votesAtFirst() {
        TickFall x = new TickFall();
        for (int house = 0; house < 7; house++) {
            due("a vote not for it", x.vote(house, false), 0);
        }
        for (int house = 6; house >= 0; house--) {
            due("a vote for it", x.vote(house, true), 7 - house);
        }
        due("a vote for it again", x.vote(3, true), 7);
        due("a vote taken back", x.vote(3, false), 6);
        due("a vote taken back again", x.vote(3, false), 6);
    }

    private static void fiveHouses() {
        for (int votes = 0; votes <= 7; votes++) {
            TickFall x = ring(0);
            for (int vote = 0; vote < votes; vote++) {
                x.vote(6 - vote, true);
            }
            due("adopted by " + votes + " houses", x.adopt(), votes >= 5);
        }
    }

    private static void allRingsClosed() {
        int[] sums = {100, -100, 101, -101};
        for (int sum : sums) {
            TickFall x = ring(sum);
            for (int house = 0; house < 5; house++) {
                x.vote(house, true);
            }
            due("adopted with a ring by " + sum, x.adopt(), Math.abs(sum) == 100);
        }
    }

    private static void onTheLastDay() {
        TickFall x = ring(0);
        for (int house = 0; house < 5; house++) {
            x.vote(house, true);
        }
        x.calibrate(1, 1, 2, 101);
        x.pass(1);
        due("with a ring open on the last day", x.adopt(), false);
        x.pass(1);
        due("with a ring open on all days but the last one", x.adopt(), true);
        TickFall y = ring(0);
        for (int house = 0; house < 5; house++) {
            y.vote(house, true);
        }
        y.calibrate(1, 2, 2, 101);
        y.pass(1);
        due("with a ring open on the last day alone", y.adopt(), false);
        TickFall late = ring(0);
        late.pass(49);
        for (int house = 0; house < 5; house++) {
            late.vote(house, true);
        }
        late.link(0, 1, 0);
        late.calibrate(3, 0, 500, 5000);
        due("with a link that did not measure on the last day", late.adopt(), true);
    }

    private static void noDayHasPassed() {
        TickFall x = new TickFall();
        for (int house = 0; house < 7; house++) {
            x.vote(house, true);
        }
        notNow("on the day 0", x::adopt);
        x.pass(1);
        due("on the day 1, without clocks", x.adopt(), true);
        notNow("a second time", x::adopt);
    }

    private static void thatStays() {
        TickFall x = ring(0);
        due("with no house", x.adopt(), false);
        due("with no house again", x.adopt(), false);
        for (int house = 0; house < 5; house++) {
            x.vote(house, true);
        }
        due("with five houses", x.adopt(), true);
        for (int house = 0; house < 5; house++) {
            due("a vote taken back", x.vote(house, false), 4 - house);
        }
        x.calibrate(0, 0, 500, 5000);
        x.pass(1);
        notNow("without votes and with an open ring", x::adopt);
        x.bounds(0, 1);
        notNow("with another doubt", x::adopt);
        x.vote(0, true);
        notNow("with a vote again", x::adopt);
    }

    private static void byTheDoubtNow() {
        TickFall high = ring(101);
        TickFall low = ring(100);
        for (int house = 0; house < 5; house++) {
            high.vote(house, true);
            low.vote(house, true);
        }
        due("with a ring by 101 and the doubt at first", high.adopt(), false);
        high.bounds(101, 20);
        due("with a ring by 101 and the doubt 101", high.adopt(), true);
        low.bounds(99, 20);
        due("with a ring by 100 and the doubt 99", low.adopt(), false);
        low.bounds(100, 20);
        due("with a ring by 100 and the doubt 100", low.adopt(), true);
    }

    private static void check(String words, Test test) {
        sentence = words;
        try {
            test.run();
        } catch (RuntimeException e) {
            wrong++;
            System.out.println("\"" + sentence + "\": " + e);
        }
    }

    private static void checkClocksAndEvents() {
        check("A continent without clocks, on the day 0", TickFallEdgeTest::nothingYet);
        check("how many events are to come", TickFallEdgeTest::noEventYet);
        check("where something is divided: its height divided by 100", TickFallEdgeTest::heightByHundred);
        check("where something is divided: divided by the sum of these weights", TickFallEdgeTest::meanTowardsZero);
        check("where something is divided: by the days between", TickFallEdgeTest::heightTowardsZero);
        check("Rates are held to 5000", TickFallEdgeTest::rateHeldUp);
        check("Rates are held: or the bound below 0", TickFallEdgeTest::rateHeldDown);
        check("Rates are held: its rate is more by its drift", TickFallEdgeTest::driftHeld);
        check("Days are counted from 0", TickFallEdgeTest::daysFromZero);
        check("Clocks are numbered from 0, at most 6", TickFallEdgeTest::clocksFromZero);
        check("a drift, 0 at first, and a phase, 0 at first", TickFallEdgeTest::zeroAtFirst);
        check("first the events of the day come", TickFallEdgeTest::eventsComeFirst);
        check("if the day is one that 10 divides", TickFallEdgeTest::tenDivides);
        check("in this order: the earlier day first", TickFallEdgeTest::earlierDayFirst);
        check("of the same the lower kind", TickFallEdgeTest::lowerKindFirst);
        check("of the same the lower number", TickFallEdgeTest::ofTheSameDayOneClockEach);
        check("of the same that with the lower amount", TickFallEdgeTest::lowerAmountFirst);
        check("at most 40 to come", TickFallEdgeTest::fortyToCome);
    }

    private static void checkLinksAndRings() {
        check("Links are numbered from 0, at most 8", TickFallEdgeTest::linksFromZero);
        check("and 1000 for each cycle; it has no slips at first", TickFallEdgeTest::measuredTogether);
        check("At the end of each day each link measures", TickFallEdgeTest::measuresAtTheEndOfEachDay);
        check("What was measured on a day stays", TickFallEdgeTest::measuredStays);
        check("of all days in it what is corrected", TickFallEdgeTest::spanOfDays);
        check("all its calibrations", TickFallEdgeTest::tenCalibrationsOfALink);
        check("Three links are a ring, if", TickFallEdgeTest::areARing);
        check("with the other sign for a link that is gone through from its second clock", TickFallEdgeTest::goneAround);
        check("from the first clock of its lowest link", TickFallEdgeTest::lowestLinkFirst);
        check("not above the doubt, 100 at first", TickFallEdgeTest::notAboveTheDoubt);
        check("rings of links that measured on a day", TickFallEdgeTest::ringsOfLinksThatMeasured);
        check("how many rings", TickFallEdgeTest::mostRings);
        check("all ways to take -1, 0 or 1 cycle", TickFallEdgeTest::oneCycleEachWay);
        check("by which all rings are closed; NONE if by no way", TickFallEdgeTest::slipsByTheDoubt);
        check("that with the fewest links with a cycle", TickFallEdgeTest::fewestLinks);
        check("of several that which has the lower number", TickFallEdgeTest::lowerNumber);
        check("one for each link that there is now", TickFallEdgeTest::figuresOfAllLinksNow);
        check("the lowest and the highest number", TickFallEdgeTest::allLinksSlipped);
        check("off what is corrected of each link", TickFallEdgeTest::byWhatIsCorrected);
    }

    private static void checkTimeAndSecond() {
        check("Each clock has a weight, 0 to 100, 1 at first", TickFallEdgeTest::weightAtFirst);
        check("that the clock 0 has a link with that measured then, and itself", TickFallEdgeTest::itselfAlone);
        check("has a link with that measured then", TickFallEdgeTest::measuredThen);
        check("the sum of each weight times how much the phase is more", TickFallEdgeTest::greatSums);
        check("the lowest such link", TickFallEdgeTest::lowestLinkOfAClock);
        check("0 if that is 0", TickFallEdgeTest::noWeights);
        check("0 if that is 0, and the mean of the day less that of the day ahead", TickFallEdgeTest::backToZero);
        check("of all clocks", TickFallEdgeTest::allClocksOfTheMean);
        check("for the steered time, if there is no clock", TickFallEdgeTest::noClock);
        check("held to the step, 20 at first", TickFallEdgeTest::heldToTheStep);
        check("that of the day ahead, 0 at first", TickFallEdgeTest::fromTheDayAhead);
        check("found by all days from the first one on, as they are now", TickFallEdgeTest::asItIsNow);
        check("published of a day, 1 to today", TickFallEdgeTest::publishedToTheLastDay);
        check("the houses 0 to 6, who vote for another second, or not, as at first", TickFallEdgeTest::votesAtFirst);
        check("if 5 houses or more vote for it", TickFallEdgeTest::fiveHouses);
        check("and all rings are closed", TickFallEdgeTest::allRingsClosed);
        check("closed: not above the doubt", TickFallEdgeTest::byTheDoubtNow);
        check("on the last day", TickFallEdgeTest::onTheLastDay);
        check("if it was adopted, or no day has passed", TickFallEdgeTest::noDayHasPassed);
        check("that stays", TickFallEdgeTest::thatStays);
    }

    public static void main(String[] args) {
        checkClocksAndEvents();
        checkLinksAndRings();
        checkTimeAndSecond();
        System.out.println(wrong == 0 ? asked + " answers at the edges are as due" : wrong + " answers are not as due");
        if (wrong != 0) {
            System.exit(1);
        }
    }
}

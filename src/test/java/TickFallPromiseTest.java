/** Each promise of the document: ordinary inputs, the edges that it names, and wrong inputs. */
public final class TickFallPromiseTest {
    private static final String NOTHING = "nothing";
    private static final String INDEX = "IndexOutOfBoundsException";
    private static final String ARGUMENT = "IllegalArgumentException";
    private static final String STATE = "IllegalStateException";

    private static int wrong = 0;
    private static String promise = "";

    private interface Call {
        void run();
    }

    private static void due(String what, long got, long want) {
        if (got != want) {
            wrong++;
            System.out.println(promise + ": " + what + " is " + got + ", due is " + want);
        }
    }

    private static void due(String what, boolean got, boolean want) {
        due(what, got ? 1 : 0, want ? 1 : 0);
    }

    private static void thrown(String what, String want, Call call) {
        String got = NOTHING;
        try {
            call.run();
        } catch (RuntimeException e) {
            got = e.getClass().getSimpleName();
        }
        if (!got.equals(want)) {
            wrong++;
            System.out.println(promise + ": " + what + " throws " + got + ", due is " + want);
        }
    }

    /** A new object with as many clocks of the rate 0 on the ground. */
    private static TickFall still(int clocks) {
        TickFall x = new TickFall();
        for (int clock = 0; clock < clocks; clock++) {
            x.clock(0, 0);
        }
        return x;
    }

    /** A ring of the links 0 to 2, each gone through from its first clock. */
    private static TickFall triangle(int one, int two, int three) {
        TickFall x = still(3);
        x.link(0, 1, one);
        x.link(1, 2, two);
        x.link(2, 0, three);
        return x;
    }

    private static void pass(TickFall x, int days) {
        for (int left = days; left > 0; left -= 50) {
            x.pass(Math.min(50, left));
        }
    }

    private static void newObject() {
        TickFall x = new TickFall();
        due("the day", x.day(), 0);
        due("the events", x.events(), 0);
        thrown("of a clock", INDEX, () -> x.of(0, 0));
        thrown("telling a clock", INDEX, () -> x.tell(0, 0, 0));
        thrown("a calibration of a link", INDEX, () -> x.calibrate(0, 0, 0, 0));
        thrown("an event of a clock", INDEX, () -> x.event(1, TickFall.JUMP, 0, 0));
        thrown("an event of a link", INDEX, () -> x.event(1, TickFall.SLIP, 0, 0));
        thrown("what was published on the day 0", INDEX, () -> x.published(0, false));
        due("a house's vote", x.vote(0, false), 0);
        x.pass(3);
        due("what was published without clocks", x.published(3, false), 0);
        due("what would be without clocks", x.published(3, true), 0);
        due("the open rings without links", x.open(3), 0);
        due("the slips without links", x.slips(3), 0);
        thrown("the mean without clocks", INDEX, () -> x.mean(3));
        TickFall other = still(1);
        due("the first clock of another object", other.day(), 0);
        thrown("that clock here", INDEX, () -> x.of(0, 0));
    }

    private static void clock() {
        TickFall x = new TickFall();
        thrown("rate -501", ARGUMENT, () -> x.clock(-501, 0));
        thrown("rate 501", ARGUMENT, () -> x.clock(501, 0));
        thrown("height -1", ARGUMENT, () -> x.clock(0, -1));
        thrown("height 5001", ARGUMENT, () -> x.clock(0, 5001));
        due("the first clock", x.clock(-500, 5000), 0);
        due("the second clock", x.clock(500, 0), 1);
        due("rate", x.of(0, 1), -500);
        due("height", x.of(0, 2), 5000);
        due("phase", x.of(0, 0), 0);
        due("weight", x.tell(1, 0, 1), 1);
        for (int clock = 2; clock < 6; clock++) {
            due("a clock", x.clock(clock, clock), clock);
        }
        thrown("a seventh clock", STATE, () -> x.clock(0, 0));
        thrown("a seventh clock out of range", ARGUMENT, () -> x.clock(501, 0));
        thrown("that clock", INDEX, () -> x.of(6, 0));
    }

    private static void lateClock() {
        TickFall x = still(1);
        x.pass(9);
        due("a clock on the day 9", x.clock(7, 199), 1);
        due("its phase", x.of(1, 0), 0);
        x.pass(1);
        due("its phase a day later", x.of(1, 0), 8);
    }

    private static void tell() {
        TickFall x = new TickFall();
        x.clock(3, 0);
        due("weight before", x.tell(0, 20, 100), 1);
        due("weight before again", x.tell(0, -20, 0), 100);
        thrown("drift -21", ARGUMENT, () -> x.tell(0, -21, 5));
        thrown("drift 21", ARGUMENT, () -> x.tell(0, 21, 5));
        thrown("weight -1", ARGUMENT, () -> x.tell(0, 5, -1));
        thrown("weight 101", ARGUMENT, () -> x.tell(0, 5, 101));
        thrown("clock 1", INDEX, () -> x.tell(1, 0, 0));
        thrown("clock -1", INDEX, () -> x.tell(-1, 0, 0));
        thrown("clock 1 out of range", INDEX, () -> x.tell(1, 21, 101));
        x.pass(9);
        due("rate on the day 9", x.of(0, 1), 3);
        x.pass(1);
        due("rate on the day 10", x.of(0, 1), -17);
        due("phase on the day 10, the drift behind it", x.of(0, 0), 30);
        due("weight before, unchanged by what threw", x.tell(0, 1, 7), 0);
        pass(x, 20);
        due("rate on the day 30", x.of(0, 1), -15);
        due("phase on the day 30", x.of(0, 0), 30 - 170 - 160);
    }

    private static void link() {
        TickFall x = still(3);
        thrown("the same clock", ARGUMENT, () -> x.link(1, 1, 0));
        thrown("asymmetry -51", ARGUMENT, () -> x.link(0, 1, -51));
        thrown("asymmetry 51", ARGUMENT, () -> x.link(0, 1, 51));
        thrown("first clock 3", INDEX, () -> x.link(3, 0, 0));
        thrown("second clock 3", INDEX, () -> x.link(0, 3, 0));
        thrown("first clock -1", INDEX, () -> x.link(-1, 0, 0));
        thrown("second clock -1", INDEX, () -> x.link(0, -1, 51));
        thrown("the same clock 3", INDEX, () -> x.link(3, 3, 51));
        due("the first link", x.link(0, 1, 50), 0);
        due("a link the other way", x.link(1, 0, -50), 1);
        for (int link = 2; link < 8; link++) {
            due("a link", x.link(2, link % 2, link), link);
        }
        thrown("a ninth link", STATE, () -> x.link(0, 1, 0));
        thrown("a ninth link out of range", ARGUMENT, () -> x.link(0, 1, 51));
        thrown("a ninth link of no clock", INDEX, () -> x.link(0, 3, 0));
        x.pass(1);
        due("asymmetry 50", x.measured(0, 1, false), 50);
        due("asymmetry -50", x.measured(1, 1, false), -50);
        due("asymmetry 7", x.measured(7, 1, false), 7);
        thrown("link 8", INDEX, () -> x.measured(8, 1, false));
    }

    private static void event() {
        TickFall x = still(2);
        x.link(0, 1, 0);
        x.pass(2);
        thrown("the day itself", ARGUMENT, () -> x.event(2, TickFall.JUMP, 0, 0));
        thrown("the day 501", ARGUMENT, () -> x.event(501, TickFall.JUMP, 0, 0));
        thrown("kind -1", ARGUMENT, () -> x.event(3, -1, 0, 0));
        thrown("kind 4", ARGUMENT, () -> x.event(3, 4, 0, 0));
        thrown("kind 4 of no clock", ARGUMENT, () -> x.event(3, 4, 9, 9999));
        thrown("clock 2 jumps", INDEX, () -> x.event(3, TickFall.JUMP, 2, 0));
        thrown("clock 2 moves", INDEX, () -> x.event(3, TickFall.MOVE, 2, 9999));
        thrown("clock -1 jumps", INDEX, () -> x.event(3, TickFall.JUMP, -1, 0));
        thrown("link 1 is rerouted", INDEX, () -> x.event(3, TickFall.REROUTE, 1, 0));
        thrown("link 1 slips", INDEX, () -> x.event(3, TickFall.SLIP, 1, 0));
        int[][] ends = {{-500, 500}, {0, 5000}, {-50, 50}, {-3, 3}};
        for (int kind = TickFall.JUMP; kind <= TickFall.SLIP; kind++) {
            int what = kind;
            thrown("amount below, kind " + kind, STATE, () -> x.event(3, what, 0, ends[what][0] - 1));
            thrown("amount above, kind " + kind, STATE, () -> x.event(3, what, 0, ends[what][1] + 1));
            due("lowest amount, kind " + kind, x.event(500, kind, 0, ends[kind][0]), 2 * kind + 1);
            due("highest amount, kind " + kind, x.event(3, kind, 0, ends[kind][1]), 2 * kind + 2);
        }
        for (int more = 8; more < 40; more++) {
            due("events to come", x.event(4, TickFall.SLIP, 0, 0), more + 1);
        }
        thrown("a 41st event", STATE, () -> x.event(3, TickFall.JUMP, 0, 0));
        thrown("a 41st event of no clock", INDEX, () -> x.event(3, TickFall.JUMP, 2, 0));
        thrown("a 41st event today", ARGUMENT, () -> x.event(2, TickFall.JUMP, 0, 0));
        x.pass(1);
        due("rate, jumped", x.of(0, 1), 500);
        due("height, moved", x.of(0, 2), 5000);
        due("phase of the same day", x.of(0, 0), 550);
        due("measured, rerouted and slipped", x.measured(0, 3, false), 550 + 50 + 3000);
        due("measured before", x.measured(0, 2, false), 0);
        due("an event more, after those of the day", x.event(500, TickFall.JUMP, 0, 0), 37);
    }

    private static void eventOrder() {
        TickFall x = new TickFall();
        x.clock(500, 0);
        x.clock(-500, 0);
        x.link(0, 1, 0);
        for (int day = 1; day <= 9; day++) {
            x.event(day, TickFall.JUMP, 0, 500);
            x.event(day, TickFall.JUMP, 1, -500);
        }
        int[] amounts = {500, -500};
        for (int amount : amounts) {
            x.event(11, TickFall.JUMP, 0, amount);
            x.event(11, TickFall.JUMP, 1, amount);
        }
        x.event(11, TickFall.MOVE, 0, 4000);
        x.event(11, TickFall.MOVE, 0, 3000);
        x.event(11, TickFall.REROUTE, 0, 7);
        x.event(11, TickFall.REROUTE, 0, -7);
        x.event(11, TickFall.SLIP, 0, 2);
        x.event(11, TickFall.SLIP, 0, -1);
        x.event(10, TickFall.MOVE, 0, 5000);
        x.event(12, TickFall.MOVE, 0, 1);
        x.pass(10);
        due("rate", x.of(0, 1), 5000);
        due("rate below 0", x.of(1, 1), -5000);
        due("height of the day 10", x.of(0, 2), 5000);
        x.pass(1);
        due("rate, lower amount first", x.of(0, 1), 5000);
        due("rate below 0, lower amount first", x.of(1, 1), -4500);
        due("height, higher amount last", x.of(0, 2), 4000);
        due("asymmetry and slips", x.measured(0, 11, false) - x.of(0, 0) + x.of(1, 0), 7 + 1000);
        x.pass(1);
        due("height of the day 12", x.of(0, 2), 1);
    }

    private static void eventKinds() {
        int[] rates = {13, 10, 10, 10};
        int[] heights = {200, 3, 200, 200};
        int[] measured = {15 + 5, 10 + 5, 12 + 3, 12 + 5 + 3000};
        for (int kind = TickFall.JUMP; kind <= TickFall.SLIP; kind++) {
            TickFall x = new TickFall();
            x.clock(10, 200);
            x.clock(0, 0);
            x.link(0, 1, 5);
            x.event(1, kind, 0, 3);
            x.pass(1);
            due("rate behind an event of the kind " + kind, x.of(0, 1), rates[kind]);
            due("height behind an event of the kind " + kind, x.of(0, 2), heights[kind]);
            due("measured behind an event of the kind " + kind, x.measured(0, 1, false), measured[kind]);
            due("rate of the other clock", x.of(1, 1), 0);
            due("height of the other clock", x.of(1, 2), 0);
        }
    }

    private static void heldRates() {
        TickFall x = new TickFall();
        x.clock(500, 0);
        x.clock(-500, 0);
        x.tell(0, 20, 1);
        x.tell(1, -20, 1);
        for (int day = 1; day <= 9; day++) {
            x.event(day, TickFall.JUMP, 0, day == 9 ? 485 : 500);
            x.event(day, TickFall.JUMP, 1, day == 9 ? -485 : -500);
        }
        x.pass(9);
        due("rate", x.of(0, 1), 4985);
        x.pass(1);
        due("rate held as it drifts", x.of(0, 1), 5000);
        due("rate below 0 held as it drifts", x.of(1, 1), -5000);
        x.event(11, TickFall.JUMP, 0, 1);
        x.event(11, TickFall.JUMP, 1, -1);
        x.pass(1);
        due("rate held as it jumps", x.of(0, 1), 5000);
        due("rate below 0 held as it jumps", x.of(1, 1), -5000);
    }

    private static void calibrate() {
        TickFall x = still(2);
        x.link(0, 1, 10);
        x.link(1, 0, 20);
        x.pass(4);
        thrown("link 2", INDEX, () -> x.calibrate(2, 0, 0, 0));
        thrown("link -1 out of range", INDEX, () -> x.calibrate(-1, 1, 0, 10001));
        thrown("from -1", ARGUMENT, () -> x.calibrate(0, -1, 0, 0));
        thrown("from 501", ARGUMENT, () -> x.calibrate(0, 501, 501, 0));
        thrown("to 501", ARGUMENT, () -> x.calibrate(0, 500, 501, 0));
        thrown("to before from", ARGUMENT, () -> x.calibrate(0, 3, 2, 0));
        thrown("amount -10001", ARGUMENT, () -> x.calibrate(0, 0, 0, -10001));
        thrown("amount 10001", ARGUMENT, () -> x.calibrate(0, 0, 0, 10001));
        due("the first one", x.calibrate(0, 2, 3, 10000), 1);
        due("the second one", x.calibrate(0, 3, 5, -1), 2);
        due("one of another link", x.calibrate(1, 0, 500, -10000), 1);
        due("ahead of the span", x.measured(0, 1, true), 10);
        due("first day of the span", x.measured(0, 2, true), -9990);
        due("in both spans", x.measured(0, 3, true), -9989);
        due("in the second span", x.measured(0, 4, true), 11);
        due("what was measured stays", x.measured(0, 3, false), 10);
        due("the other link", x.measured(1, 1, true), 10020);
        x.pass(2);
        due("the last day of the span, told ahead", x.measured(0, 5, true), 11);
        due("behind the span", x.measured(0, 6, true), 10);
        for (int told = 3; told <= 10; told++) {
            due("calibrations", x.calibrate(0, 500, 500, 1), told);
        }
        thrown("an 11th one", STATE, () -> x.calibrate(0, 0, 0, 0));
        thrown("an 11th one out of range", ARGUMENT, () -> x.calibrate(0, 1, 0, 0));
        due("one more of the other link", x.calibrate(1, 0, 0, 0), 2);
    }

    private static void bounds() {
        TickFall x = triangle(50, 50, 0);
        x.clock(500, 0);
        x.link(3, 0, 0);
        thrown("doubt -1", ARGUMENT, () -> x.bounds(-1, 20));
        thrown("doubt 500", ARGUMENT, () -> x.bounds(500, 20));
        thrown("step 0", ARGUMENT, () -> x.bounds(0, 0));
        thrown("step 1001", ARGUMENT, () -> x.bounds(0, 1001));
        x.event(2, TickFall.REROUTE, 2, 1);
        x.pass(1);
        due("the step at first, held", x.published(1, false), 20);
        x.pass(1);
        due("a ring with the doubt at first", x.open(1), 0);
        due("a ring beyond the doubt at first", x.open(2), 1);
        x.bounds(101, 1);
        due("a ring with another doubt", x.open(2), 0);
        due("what was published", x.published(2, false), 40);
        due("what would be with another step", x.published(2, true), 2);
        x.bounds(0, 1000);
        due("a ring with the doubt 0", x.open(1), 1);
        due("what would be with the highest step", x.published(1, true), (500 - 50) / 4);
        x.bounds(499, 1);
        due("rings with the highest doubt", x.open(2), 0);
    }

    private static void passDays() {
        TickFall x = new TickFall();
        thrown("0 days", ARGUMENT, () -> x.pass(0));
        thrown("-1 days", ARGUMENT, () -> x.pass(-1));
        thrown("51 days", ARGUMENT, () -> x.pass(51));
        x.clock(-3, 199);
        x.clock(4, 99);
        x.link(0, 1, 5);
        due("1 day", x.pass(1), 1);
        due("phase", x.of(0, 0), -2);
        due("phase of the other clock", x.of(1, 0), 4);
        due("50 days", x.pass(50), 51);
        due("phase on the day 51", x.of(0, 0), -102);
        due("each day is measured", x.measured(0, 50, false), -100 - 200 + 5);
        pass(x, 430);
        due("the day", x.day(), 481);
        thrown("beyond the day 500", STATE, () -> x.pass(20));
        thrown("51 days beyond the day 500", ARGUMENT, () -> x.pass(51));
        due("the day, unchanged by what threw", x.day(), 481);
        due("phase, unchanged by what threw", x.of(0, 0), -962);
        due("to the day 500", x.pass(19), 500);
        thrown("a day beyond the day 500", STATE, () -> x.pass(1));
        due("measured on the day 500", x.measured(0, 500, false), -1000 - 2000 + 5);
        thrown("an event behind the day 500", ARGUMENT, () -> x.event(501, TickFall.JUMP, 0, 0));
    }

    private static void vote() {
        TickFall x = new TickFall();
        thrown("house -1", INDEX, () -> x.vote(-1, true));
        thrown("house 7", INDEX, () -> x.vote(7, true));
        due("a vote against", x.vote(3, false), 0);
        due("a vote", x.vote(0, true), 1);
        due("the same vote", x.vote(0, true), 1);
        due("the last house's vote", x.vote(6, true), 2);
        due("a vote taken back", x.vote(0, false), 1);
        for (int house = 0; house < 7; house++) {
            x.vote(house, true);
        }
        due("all votes", x.vote(6, true), 7);
    }

    private static void adopt() {
        TickFall x = triangle(50, 50, 0);
        x.event(2, TickFall.REROUTE, 2, 1);
        for (int house = 0; house < 4; house++) {
            x.vote(house, true);
        }
        thrown("no day has passed", STATE, x::adopt);
        x.pass(1);
        due("with 4 votes", x.adopt(), false);
        x.vote(6, true);
        x.pass(1);
        due("with a ring that is open on the last day", x.adopt(), false);
        x.vote(5, true);
        due("with 6 votes and an open ring", x.adopt(), false);
        x.vote(5, false);
        x.calibrate(1, 2, 2, 1);
        due("with 5 votes and all rings closed", x.adopt(), true);
        thrown("a second time", STATE, x::adopt);
        due("a vote taken back", x.vote(0, false), 4);
        thrown("it stays", STATE, x::adopt);
    }

    private static void adoptOnTheLastDay() {
        TickFall x = triangle(50, 50, 50);
        for (int house = 1; house < 7; house++) {
            x.vote(house, true);
        }
        x.event(2, TickFall.REROUTE, 0, 0);
        x.pass(2);
        due("with a ring that was open on an earlier day alone", x.adopt(), true);
        TickFall without = new TickFall();
        for (int house = 0; house < 5; house++) {
            without.vote(house, true);
        }
        without.pass(1);
        due("without rings", without.adopt(), true);
    }

    private static void day() {
        TickFall x = new TickFall();
        x.pass(1);
        due("the day", x.day(), 1);
        x.pass(50);
        due("the day", x.day(), 51);
    }

    private static void of() {
        TickFall x = new TickFall();
        x.clock(5, 300);
        x.clock(-7, 4999);
        x.pass(2);
        due("phase", x.of(0, 0), 16);
        due("rate", x.of(0, 1), 5);
        due("height", x.of(0, 2), 300);
        due("phase of the other clock", x.of(1, 0), 84);
        due("rate of the other clock", x.of(1, 1), -7);
        due("height of the other clock", x.of(1, 2), 4999);
        thrown("what 3", ARGUMENT, () -> x.of(0, 3));
        thrown("what -1", ARGUMENT, () -> x.of(0, -1));
        thrown("clock 2", INDEX, () -> x.of(2, 0));
        thrown("clock -1", INDEX, () -> x.of(-1, 3));
    }

    private static void measured() {
        TickFall x = new TickFall();
        x.clock(100, 0);
        x.clock(30, 0);
        x.link(0, 1, 4);
        x.pass(2);
        x.link(1, 0, -4);
        due("first less second", x.measured(0, 2, false), 144);
        thrown("a link on the day on which it was laid", INDEX, () -> x.measured(1, 2, false));
        x.event(3, TickFall.SLIP, 0, -2);
        x.event(3, TickFall.REROUTE, 0, 9);
        x.event(4, TickFall.SLIP, 0, 3);
        x.pass(2);
        due("first less second, the other way", x.measured(1, 3, false), -214);
        due("with cycles", x.measured(0, 3, false), 210 + 9 - 2000);
        due("with cycles together", x.measured(0, 4, false), 280 + 9 + 1000);
        due("what was measured stays", x.measured(0, 2, false), 144);
        x.calibrate(0, 4, 4, 289);
        due("corrected", x.measured(0, 4, true), 1000);
        due("not corrected", x.measured(0, 4, false), 1289);
        due("corrected outside of the span", x.measured(0, 3, true), -1781);
        thrown("the day 0", INDEX, () -> x.measured(0, 0, true));
        thrown("the day 5", INDEX, () -> x.measured(0, 5, true));
        thrown("the day -1", INDEX, () -> x.measured(0, -1, true));
        thrown("link 2", INDEX, () -> x.measured(2, 1, true));
        thrown("link -1", INDEX, () -> x.measured(-1, 1, true));
        thrown("the other link too early", INDEX, () -> x.measured(1, 2, true));
    }

    /** All ways to lay three links around, each with another asymmetry, so that each sign shows. */
    private static void closes() {
        int[][] pairs = {{0, 1}, {1, 2}, {2, 0}};
        int[] amounts = {1, 4, 16};
        for (int way = 0; way < 8; way++) {
            TickFall x = still(3);
            int sum = 0;
            int lowestSign = (way & 1) == 0 ? 1 : -1;
            for (int link = 0; link < 3; link++) {
                boolean isTurned = (way >> link & 1) == 1;
                x.link(pairs[link][isTurned ? 1 : 0], pairs[link][isTurned ? 0 : 1], amounts[link]);
                sum += (isTurned ? -1 : 1) * lowestSign * amounts[link];
            }
            x.pass(1);
            due("ring " + way, x.closes(0, 1, 2, 1), sum);
            due("ring " + way + ", told otherwise", x.closes(2, 0, 1, 1), sum);
            due("ring " + way + ", told backwards", x.closes(2, 1, 0, 1), sum);
            x.calibrate(1, 1, 1, 4);
            due("ring " + way + ", corrected", Math.abs(x.closes(1, 2, 0, 1)),
                    Math.abs(sum - ((way >> 1 & 1) == 1 ? -1 : 1) * lowestSign * 4));
        }
        TickFall x = still(4);
        x.link(0, 1, 0);
        x.link(1, 2, 0);
        x.link(2, 3, 7);
        x.link(1, 0, 0);
        x.link(3, 1, 30);
        x.link(1, 2, 0);
        x.pass(1);
        due("a ring of other links", x.closes(4, 2, 1, 1), 37);
        due("a ring of other links, told otherwise", x.closes(2, 5, 4, 1), 37);
        thrown("no ring: a row", ARGUMENT, () -> x.closes(0, 1, 2, 1));
        thrown("no ring: two by the same clocks", ARGUMENT, () -> x.closes(0, 1, 3, 1));
        thrown("no ring: two by the same clocks, twice the same pair", ARGUMENT, () -> x.closes(1, 5, 2, 1));
        thrown("no ring: a star", ARGUMENT, () -> x.closes(0, 1, 4, 1));
        thrown("no ring: a link twice", ARGUMENT, () -> x.closes(1, 1, 2, 1));
        thrown("no ring: a link three times", ARGUMENT, () -> x.closes(1, 1, 1, 1));
        thrown("link 6", INDEX, () -> x.closes(1, 2, 6, 1));
        thrown("link -1", INDEX, () -> x.closes(-1, 2, 4, 1));
        thrown("link 6 second", INDEX, () -> x.closes(1, 6, 1, 1));
        thrown("the day 0", INDEX, () -> x.closes(1, 2, 4, 0));
        thrown("the day 2 with no ring", INDEX, () -> x.closes(1, 1, 1, 2));
        x.link(2, 0, 7);
        thrown("a link that did not measure", INDEX, () -> x.closes(0, 1, 6, 1));
        x.pass(1);
        due("the same on the next day", x.closes(0, 1, 6, 2), 7);
    }

    private static void open() {
        TickFall x = triangle(50, 50, 1);
        x.link(0, 2, 0);
        x.pass(1);
        due("a ring of two that is not closed", x.open(1), 1);
        x.link(0, 2, -50);
        due("a link that did not measure is in no ring", x.open(1), 1);
        x.event(2, TickFall.REROUTE, 2, 0);
        x.event(3, TickFall.REROUTE, 0, -50);
        x.event(3, TickFall.REROUTE, 1, -50);
        x.event(3, TickFall.REROUTE, 2, -1);
        x.pass(2);
        due("a ring beyond the doubt", x.open(2), 1);
        due("one below 0 beyond the doubt", x.open(3), 1);
        x.calibrate(4, 2, 2, -50);
        due("none, by what is corrected since", x.open(2), 0);
        x.bounds(99, 20);
        due("rings at the doubt, with a lower one", x.open(2), 3);
        thrown("the day 0", INDEX, () -> x.open(0));
        thrown("the day 4", INDEX, () -> x.open(4));
        due("the open rings of a day with fewer rings", x.open(1), 2);
        due("the open rings asked again", x.open(2), 3);
    }

    private static int slipsOf(int one, int two, int three) {
        TickFall x = triangle(0, 0, 0);
        int[] cycles = {one, two, three};
        for (int link = 0; link < 3; link++) {
            x.event(1, TickFall.SLIP, link, cycles[link]);
        }
        x.pass(1);
        return x.slips(1);
    }

    private static void slips() {
        due("no slip", slipsOf(0, 0, 0), 13);
        due("the lowest link of those that slipped up", slipsOf(0, 1, 0), 14);
        due("the highest link of those that slipped down", slipsOf(0, -1, 0), 4);
        due("two that cancel out", slipsOf(1, -1, 0), 13);
        due("two cycles up", slipsOf(2, 0, 0), 1 * 9 + 2 * 3 + 2);
        due("two cycles down", slipsOf(-1, 0, -1), 0 * 9 + 0 * 3 + 1);
        due("three cycles up", slipsOf(1, 1, 1), 26);
        due("three cycles down", slipsOf(0, 0, -3), 0);
        due("four cycles", slipsOf(2, 2, 0), TickFall.NONE);
        TickFall x = triangle(0, 0, 0);
        x.clock(0, 0);
        x.link(0, 3, 0);
        x.link(2, 3, 0);
        x.event(1, TickFall.SLIP, 0, 1);
        x.event(2, TickFall.SLIP, 2, -1);
        x.event(3, TickFall.SLIP, 4, 1);
        x.event(4, TickFall.SLIP, 0, -1);
        x.event(4, TickFall.SLIP, 4, -1);
        x.pass(1);
        due("a link with a cycle of two rings", x.slips(1), 121 + 1);
        x.link(1, 3, 0);
        due("with a link that did not measure", x.slips(1), 364 + 1);
        x.pass(3);
        thrown("the day 0", INDEX, () -> x.slips(0));
        thrown("the day 5", INDEX, () -> x.slips(5));
        due("two slips that one link between accounts for", x.slips(2), 364 - 27);
        due("slips of two links", x.slips(3), 364 - 27 + 81);
        due("one link with a cycle", x.slips(4), 364 - 9);
        x.calibrate(2, 4, 4, -1000);
        due("corrected", x.slips(4), 364);
        x.calibrate(2, 4, 4, 499);
        due("beyond the doubt by any way", x.slips(4), TickFall.NONE);
        x.bounds(499, 20);
        due("not beyond another doubt", x.slips(4), 364);
        due("the questions change nothing", x.measured(2, 4, true), -499);
    }

    private static void eightLinks() {
        TickFall x = still(4);
        int[][] pairs = {{0, 1}, {1, 2}, {2, 0}, {0, 3}, {1, 3}, {2, 3}, {0, 1}, {0, 3}};
        for (int[] pair : pairs) {
            x.link(pair[0], pair[1], 0);
        }
        x.event(2, TickFall.SLIP, 7, 1);
        x.event(3, TickFall.SLIP, 6, -1);
        x.pass(3);
        due("no slip of eight links", x.slips(1), 3280);
        due("no open ring of eight links", x.open(1), 0);
        due("a slip of the last link", x.slips(2), 3280 + 2187);
        due("the open rings of the last link", x.open(2), 3);
        due("slips of the last two links", x.slips(3), 3280 + 2187 - 729);
        TickFall row = still(3);
        row.link(0, 1, 50);
        row.link(1, 2, 50);
        row.event(1, TickFall.SLIP, 0, 3);
        row.pass(1);
        due("links in no ring", row.slips(1), 4);
    }

    private static void mean() {
        TickFall x = new TickFall();
        x.clock(0, 0);
        x.clock(10, 0);
        x.clock(-25, 0);
        x.clock(400, 0);
        x.pass(1);
        due("without links", x.mean(1), 0);
        x.link(0, 1, 0);
        x.link(2, 0, 3);
        x.link(1, 0, 50);
        x.link(1, 3, 0);
        due("of a day on which no link measured", x.mean(1), 0);
        x.pass(1);
        due("of three clocks, rounded towards 0", x.mean(2), (20 - 47) / 3);
        x.tell(1, 0, 100);
        x.tell(2, 0, 7);
        due("by weights", x.mean(2), (20 * 100 - 47 * 7) / 108);
        x.tell(3, 0, 90);
        due("a clock without a link to the clock 0 does not count", x.mean(2), 1671 / 108);
        x.tell(1, 0, 0);
        due("below 0, rounded towards 0", x.mean(2), -(47 * 7 / 8));
        x.tell(0, 0, 0);
        due("the weight of the clock 0 counts", x.mean(2), -47);
        x.tell(2, 0, 0);
        due("without weights", x.mean(2), 0);
        x.tell(1, 0, 1);
        x.calibrate(0, 2, 2, -5);
        due("by what is corrected, the lowest link alone", x.mean(2), 15);
        x.link(1, 0, 1);
        x.link(3, 0, 0);
        x.tell(3, 0, 2);
        x.pass(1);
        due("the lowest link of each clock", x.mean(3), (30 + 2 * 1200) / 3);
        thrown("the day 0", INDEX, () -> x.mean(0));
        thrown("the day 4", INDEX, () -> x.mean(4));
        TickFall turned = still(3);
        turned.link(2, 0, 12);
        turned.link(1, 0, 30);
        turned.link(1, 0, 50);
        turned.pass(1);
        due("the lowest links, of the clock 2 first", turned.mean(1), 42 / 3);
        TickFall without = new TickFall();
        without.pass(1);
        thrown("no clock", INDEX, () -> without.mean(1));
        without.clock(5, 5);
        due("a clock since", without.mean(1), 0);
    }

    private static void meanOfGreatNumbers() {
        TickFall x = new TickFall();
        x.clock(-500, 0);
        for (int clock = 1; clock < 6; clock++) {
            x.clock(500, 5000);
            x.link(clock, 0, 0);
            x.tell(clock, 20, 100);
        }
        x.tell(0, -20, 0);
        for (int day = 1; day <= 8; day++) {
            x.event(day, TickFall.JUMP, 0, -500);
            for (int clock = 1; clock < 5; clock++) {
                x.event(day, TickFall.JUMP, clock, 500);
            }
        }
        pass(x, 500);
        long sum = 0;
        for (int clock = 1; clock < 6; clock++) {
            sum += 100L * (x.of(clock, 0) - x.of(0, 0));
        }
        due("a sum beyond the ints", x.mean(500), sum / 500);
        due("a height by great numbers", x.height(0, 1, 500, -1000),
                100L * (x.measured(0, 500, false) - x.measured(0, 1, false) + 499000) / 499);
    }

    private static void published() {
        TickFall x = new TickFall();
        x.clock(0, 0);
        x.clock(30, 0);
        x.link(1, 0, 0);
        x.pass(3);
        due("a mean within the step", x.published(1, false), 15);
        due("the next one", x.published(2, false), 30);
        x.bounds(100, 4);
        x.pass(2);
        due("published before stays", x.published(3, false), 45);
        due("held to another step", x.published(5, false), 53);
        due("what would be", x.published(5, true), 20);
        x.calibrate(0, 1, 4, 200);
        due("what was published of a day calibrated later", x.published(4, false), 49);
        due("what would be of it, below 0", x.published(4, true), -16);
        due("what would be of the next day", x.published(5, true), -12);
        due("what would be of an earlier day", x.published(2, true), -8);
        x.pass(1);
        due("steered on from what was published", x.published(6, false), 57);
        due("what would be, steered on", x.published(6, true), -8);
        x.tell(1, 0, 0);
        due("what would be by the weights now", x.published(6, true), 0);
        x.pass(1);
        due("published by the weights then", x.published(7, false), 53);
        thrown("the day 0", INDEX, () -> x.published(0, true));
        thrown("the day 8", INDEX, () -> x.published(8, true));
        thrown("the day 8 as it was", INDEX, () -> x.published(8, false));
        thrown("the day -1", INDEX, () -> x.published(-1, false));
    }

    private static void publishedByCalibrationToCome() {
        TickFall x = still(2);
        x.link(1, 0, 0);
        x.calibrate(0, 2, 2, -30);
        x.pass(3);
        due("ahead of a calibration told ahead", x.published(1, false), 0);
        due("by a calibration told ahead", x.published(2, false), 15);
        due("behind it", x.published(3, false), 0);
    }

    private static void height() {
        TickFall x = new TickFall();
        x.clock(10, 1000);
        x.clock(7, 400);
        x.link(0, 1, 20);
        x.link(1, 0, 20);
        x.pass(7);
        due("by a known rate", x.height(0, 1, 7, 3), 600);
        due("by a known rate, the other way", x.height(1, 1, 7, -3), -600);
        due("by the rate 0", x.height(0, 3, 4, 0), 900);
        x.calibrate(0, 7, 7, 1);
        due("corrected, rounded", x.height(0, 4, 7, 3), 100 * 17 / 3);
        due("below 0, rounded towards 0", x.height(0, 4, 7, 9), -(100 * 1 / 3));
        due("the highest rate", x.height(0, 1, 2, 1000), 100 * (9 - 1000));
        due("the lowest rate", x.height(0, 1, 2, -1000), 100 * (9 + 1000));
        thrown("rate 1001", ARGUMENT, () -> x.height(0, 1, 2, 1001));
        thrown("rate -1001", ARGUMENT, () -> x.height(0, 1, 2, -1001));
        thrown("the same day", ARGUMENT, () -> x.height(0, 2, 2, 0));
        thrown("a day ahead", ARGUMENT, () -> x.height(0, 2, 1, 0));
        thrown("from the day 0", INDEX, () -> x.height(0, 0, 2, 1001));
        thrown("to the day 8", INDEX, () -> x.height(0, 1, 8, 1001));
        thrown("to the day 0", INDEX, () -> x.height(0, 1, 0, 0));
        thrown("link 2", INDEX, () -> x.height(2, 2, 1, 0));
        thrown("link -1", INDEX, () -> x.height(-1, 1, 2, 0));
        x.link(0, 1, 0);
        x.pass(2);
        thrown("a day on which it did not measure", INDEX, () -> x.height(2, 7, 9, 0));
        due("from its first day", x.height(2, 8, 9, 0), 900);
    }

    private static void events() {
        TickFall x = still(1);
        x.event(3, TickFall.MOVE, 0, 1);
        x.event(1, TickFall.MOVE, 0, 2);
        x.event(3, TickFall.MOVE, 0, 3);
        due("to come", x.events(), 3);
        thrown("one out of range", STATE, () -> x.event(3, TickFall.MOVE, 0, -1));
        due("to come, unchanged by what threw", x.events(), 3);
        x.pass(1);
        due("to come behind the first one", x.events(), 2);
        x.pass(1);
        due("to come on the day ahead", x.events(), 2);
        x.pass(1);
        due("to come behind all", x.events(), 0);
    }

    private static void constants() {
        due("NONE", TickFall.NONE, -1);
        due("JUMP", TickFall.JUMP, 0);
        due("MOVE", TickFall.MOVE, 1);
        due("REROUTE", TickFall.REROUTE, 2);
        due("SLIP", TickFall.SLIP, 3);
    }

    private static void check(String name, Call test) {
        promise = name;
        thrown("the test itself", NOTHING, test);
    }

    public static void main(String[] args) {
        check("constants", TickFallPromiseTest::constants);
        check("promise 1", TickFallPromiseTest::newObject);
        check("promise 2", TickFallPromiseTest::clock);
        check("promise 2, a late clock", TickFallPromiseTest::lateClock);
        check("promise 3", TickFallPromiseTest::tell);
        check("promise 4", TickFallPromiseTest::link);
        check("promise 5", TickFallPromiseTest::event);
        check("promise 5, the order", TickFallPromiseTest::eventOrder);
        check("promise 5, the kinds", TickFallPromiseTest::eventKinds);
        check("promise 5, held rates", TickFallPromiseTest::heldRates);
        check("promise 6", TickFallPromiseTest::calibrate);
        check("promise 7", TickFallPromiseTest::bounds);
        check("promise 8", TickFallPromiseTest::passDays);
        check("promise 9", TickFallPromiseTest::vote);
        check("promise 10", TickFallPromiseTest::adopt);
        check("promise 10, the last day", TickFallPromiseTest::adoptOnTheLastDay);
        check("promise 11", TickFallPromiseTest::day);
        check("promise 12", TickFallPromiseTest::of);
        check("promise 13", TickFallPromiseTest::measured);
        check("promise 14", TickFallPromiseTest::closes);
        check("promise 15", TickFallPromiseTest::open);
        check("promise 16", TickFallPromiseTest::slips);
        check("promise 15 and 16, eight links", TickFallPromiseTest::eightLinks);
        check("promise 17", TickFallPromiseTest::mean);
        check("promise 17 and 19, great numbers", TickFallPromiseTest::meanOfGreatNumbers);
        check("promise 18", TickFallPromiseTest::published);
        check("promise 18, a calibration to come", TickFallPromiseTest::publishedByCalibrationToCome);
        check("promise 19", TickFallPromiseTest::height);
        check("promise 20", TickFallPromiseTest::events);
        System.out.println(wrong == 0 ? "all promises hold" : wrong + " answers are not as due");
        if (wrong != 0) {
            System.exit(1);
        }
    }
}

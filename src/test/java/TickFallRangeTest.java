import java.util.ArrayList;
import java.util.List;

/**
 * The ranges of all arguments: the last number inside of it answers, the first one outside of it is refused, at
 * either end; what is refused throws the exception that is named first, and changes nothing: an object that was
 * refused a call answers all that can be asked as one that was not.
 */
public final class TickFallRangeTest {
    private static final String INDEX = "throws.IndexOutOfBoundsException";
    private static final String ARGUMENT = "throws.IllegalArgumentException";
    private static final String STATE = "throws.IllegalStateException";
    private static final int MIN = Integer.MIN_VALUE;
    private static final int MAX = Integer.MAX_VALUE;

    private static int wrong = 0;
    private static int asked = 0;
    private static String promise = "";

    private interface Room {
        TickFall make();
    }

    private interface Call {
        long on(TickFall x);
    }

    private interface NumberCall {
        long on(TickFall x, int number);
    }

    private interface Probe {
        void ask(TickFall x, List<String> answers);
    }

    private static String answerOf(TickFall x, Call call) {
        try {
            return Long.toString(call.on(x));
        } catch (RuntimeException e) {
            return "throws." + e.getClass().getSimpleName();
        }
    }

    private static void complain(String text) {
        wrong++;
        System.out.println(promise + ": " + text);
    }

    // ---- what is checked of a call

    private static void answers(Room room, String what, long want, Call call) {
        asked++;
        String got = answerOf(room.make(), call);
        if (!got.equals(Long.toString(want))) {
            complain(what + " answered " + got + ", due is " + want);
        }
    }

    private static void isIn(Room room, String what, Call call) {
        asked++;
        String got = answerOf(room.make(), call);
        if (got.startsWith("throws")) {
            complain(what + " answered " + got + ", but it is in its range");
        }
    }

    private static void refused(Room room, String what, String want, Call call) {
        asked++;
        String got = answerOf(room.make(), call);
        if (!got.equals(want)) {
            complain(what + " answered " + got + ", due is " + want);
        }
        changesNothing(room, what, call);
    }

    private static void changesNothing(Room room, String what, Call call) {
        for (Probe probe : PROBES) {
            TickFall asBefore = room.make();
            TickFall behind = room.make();
            answerOf(behind, call);
            List<String> before = new ArrayList<>();
            List<String> after = new ArrayList<>();
            probe.ask(asBefore, before);
            probe.ask(behind, after);
            if (!before.equals(after)) {
                complain(what + " changed something: " + before + " became " + after);
            }
        }
    }

    /** The ends of a range are in it, the next numbers and those farthest out are not. */
    private static void range(Room room, String what, int low, int high, String exception, NumberCall call) {
        int[] inside = {low, high};
        for (int number : inside) {
            isIn(room, what + " " + number, x -> call.on(x, number));
        }
        int[] outside = {low - 1, high + 1, MIN, MAX};
        for (int number : outside) {
            refused(room, what + " " + number, exception, x -> call.on(x, number));
        }
    }

    // ---- the objects that calls are made on

    private static TickFall bare() {
        return new TickFall();
    }

    /** The day 12, 4 clocks, 5 links (the last one has not measured yet), 5 events and a calibration to come. */
    private static TickFall busy() {
        TickFall x = new TickFall();
        x.clock(10, 250);
        x.clock(-7, 1900);
        x.clock(0, 0);
        x.clock(3, 99);
        x.link(0, 1, 3);
        x.link(1, 2, -4);
        x.link(2, 0, 1);
        x.link(0, 1, -9);
        x.tell(0, 2, 5);
        x.tell(1, -3, 2);
        x.tell(2, 1, 7);
        x.bounds(30, 15);
        x.event(3, TickFall.SLIP, 1, 1);
        x.event(14, TickFall.JUMP, 0, 50);
        x.event(15, TickFall.MOVE, 1, 4000);
        x.event(16, TickFall.REROUTE, 0, 50);
        x.event(16, TickFall.SLIP, 3, -2);
        x.event(15, TickFall.JUMP, 2, -9);
        x.calibrate(1, 4, 20, 1000);
        x.calibrate(0, 2, 14, -11);
        for (int house = 2; house < 7; house++) {
            x.vote(house, true);
        }
        x.pass(12);
        x.link(3, 0, 8);
        return x;
    }

    /** The day 2, all places taken: 6 clocks, 8 links, 40 events to come, 10 calibrations of the links 0 and 7. */
    private static TickFall full() {
        TickFall x = new TickFall();
        for (int clock = 0; clock < 6; clock++) {
            x.clock(7 * clock - 20, 100 * clock);
        }
        for (int link = 0; link < 8; link++) {
            x.link(link % 3, (link + 1) % 3, link);
        }
        x.pass(2);
        for (int event = 0; event < 40; event++) {
            x.event(3 + event % 3, event % 4, event % 5, event % 4 == TickFall.SLIP ? 1 : event);
        }
        for (int told = 0; told < 10; told++) {
            x.calibrate(0, told, told + 1, 100 * told);
            x.calibrate(7, 0, 500, -told);
        }
        return x;
    }

    private static TickFall onTheDay(int day) {
        TickFall x = new TickFall();
        x.clock(5, 0);
        x.clock(-5, 700);
        x.link(0, 1, 0);
        x.link(1, 0, 3);
        for (int rounds = 0; rounds < 10 && x.day() < day; rounds++) {
            x.pass(Math.min(50, day - x.day()));
        }
        x.link(1, 0, 1);
        return x;
    }

    private static TickFall dayZero() {
        return onTheDay(0);
    }

    private static TickFall dayOne() {
        return onTheDay(1);
    }

    private static TickFall day450() {
        return onTheDay(450);
    }

    private static TickFall day451() {
        return onTheDay(451);
    }

    private static TickFall day499() {
        return onTheDay(499);
    }

    private static TickFall lastDay() {
        return onTheDay(500);
    }

    private static TickFall adopted() {
        TickFall x = busy();
        x.adopt();
        return x;
    }

    // ---- all that can be asked

    private static final List<Probe> PROBES = List.of(TickFallRangeTest::askOfNow, TickFallRangeTest::askOfDays,
            TickFallRangeTest::askOfRings, TickFallRangeTest::askOfWhatIsSet, TickFallRangeTest::askOfWhatComes);

    private static void askOfNow(TickFall x, List<String> answers) {
        answers.add(answerOf(x, TickFall::day));
        answers.add(answerOf(x, TickFall::events));
        for (int clock = 0; clock < 6; clock++) {
            for (int what = 0; what < 3; what++) {
                int[] a = {clock, what};
                answers.add(answerOf(x, y -> y.of(a[0], a[1])));
            }
        }
    }

    private static void askOfDay(TickFall x, int day, List<String> answers) {
        for (int link = 0; link < 8; link++) {
            int number = link;
            answers.add(answerOf(x, y -> y.measured(number, day, false)));
            answers.add(answerOf(x, y -> y.measured(number, day, true)));
            answers.add(answerOf(x, y -> y.height(number, 1, day, 7)));
        }
        answers.add(answerOf(x, y -> y.open(day)));
        answers.add(answerOf(x, y -> y.slips(day)));
        answers.add(answerOf(x, y -> y.mean(day)));
        answers.add(answerOf(x, y -> y.published(day, false)));
        answers.add(answerOf(x, y -> y.published(day, true)));
    }

    private static void askOfDays(TickFall x, List<String> answers) {
        askOfDay(x, 1, answers);
        int last = x.day();
        for (int day = Math.max(2, last - 5); day <= last + 1; day++) {
            askOfDay(x, day, answers);
        }
    }

    private static void askOfRings(TickFall x, List<String> answers) {
        int[] days = {1, x.day()};
        for (int day : days) {
            for (int one = 0; one < 8; one++) {
                for (int two = one + 1; two < 8; two++) {
                    for (int three = two + 1; three < 8; three++) {
                        int[] a = {one, two, three, day};
                        answers.add(answerOf(x, y -> y.closes(a[0], a[1], a[2], a[3])));
                    }
                }
            }
        }
    }

    /** The weights, the drifts, the votes, how many calibrations there are, and whether there is room for more. */
    private static void askOfWhatIsSet(TickFall x, List<String> answers) {
        for (int link = 0; link < 8; link++) {
            int number = link;
            answers.add(answerOf(x, y -> y.calibrate(number, 0, 0, 0)));
        }
        answers.add(answerOf(x, TickFallRangeTest::adopt));
        for (int house = 0; house < 7; house++) {
            int number = house;
            answers.add(answerOf(x, y -> y.vote(number, number != 6)));
        }
        answers.add(answerOf(x, TickFallRangeTest::adopt));
        for (int clock = 0; clock < 6; clock++) {
            int number = clock;
            answers.add(answerOf(x, y -> y.tell(number, 0, 1)));
        }
        answers.add(answerOf(x, y -> y.event(500, TickFall.JUMP, 0, 0)));
        answers.add(answerOf(x, y -> y.clock(1, 100)));
        answers.add(answerOf(x, y -> y.link(1, 0, 2)));
        answers.add(answerOf(x, y -> y.pass(1)));
        askOfNow(x, answers);
        askOfDay(x, x.day(), answers);
    }

    private static void askOfWhatComes(TickFall x, List<String> answers) {
        for (int days = 1; days <= 5; days++) {
            answers.add(answerOf(x, y -> y.pass(1)));
            askOfNow(x, answers);
            askOfDay(x, x.day(), answers);
        }
        answers.add(answerOf(x, y -> y.pass(40)));
        askOfNow(x, answers);
        askOfDay(x, x.day(), answers);
        answers.add(answerOf(x, TickFallRangeTest::adopt));
        int[] c = {0, 1, 2, x.day()};
        answers.add(answerOf(x, y -> y.closes(c[0], c[1], c[2], c[3])));
    }

    private static long adopt(TickFall x) {
        return x.adopt() ? 1 : 0;
    }

    private static long bounds(TickFall x, int doubt, int step) {
        x.bounds(doubt, step);
        return 0;
    }

    // ---- the promises

    private static void clock() {
        range(TickFallRangeTest::bare, "rate", -500, 500, ARGUMENT, (x, n) -> x.clock(n, 0));
        range(TickFallRangeTest::bare, "height", 0, 5000, ARGUMENT, (x, n) -> x.clock(0, n));
        range(TickFallRangeTest::busy, "rate of a fifth one", -500, 500, ARGUMENT, (x, n) -> x.clock(n, 5000));
        range(TickFallRangeTest::busy, "height of a fifth one", 0, 5000, ARGUMENT, (x, n) -> x.clock(-500, n));
        answers(TickFallRangeTest::bare, "the first one", 0, x -> x.clock(-500, 0));
        answers(TickFallRangeTest::busy, "the fifth one", 4, x -> x.clock(500, 5000));
        refused(TickFallRangeTest::full, "a seventh one", STATE, x -> x.clock(0, 0));
        refused(TickFallRangeTest::full, "a seventh one, rate 501", ARGUMENT, x -> x.clock(501, 0));
        refused(TickFallRangeTest::full, "a seventh one, rate -501", ARGUMENT, x -> x.clock(-501, 0));
        refused(TickFallRangeTest::full, "a seventh one, height 5001", ARGUMENT, x -> x.clock(0, 5001));
        refused(TickFallRangeTest::full, "a seventh one, height -1", ARGUMENT, x -> x.clock(0, -1));
    }

    private static void tell() {
        refused(TickFallRangeTest::bare, "no clock there yet", INDEX, x -> x.tell(0, 0, 0));
        range(TickFallRangeTest::busy, "clock", 0, 3, INDEX, (x, n) -> x.tell(n, 0, 0));
        range(TickFallRangeTest::full, "clock of six", 0, 5, INDEX, (x, n) -> x.tell(n, 1, 1));
        range(TickFallRangeTest::busy, "drift", -20, 20, ARGUMENT, (x, n) -> x.tell(0, n, 50));
        range(TickFallRangeTest::busy, "weight", 0, 100, ARGUMENT, (x, n) -> x.tell(1, 20, n));
        refused(TickFallRangeTest::busy, "clock 4, drift 21", INDEX, x -> x.tell(4, 21, 0));
        refused(TickFallRangeTest::busy, "clock -1, weight 101", INDEX, x -> x.tell(-1, 0, 101));
        refused(TickFallRangeTest::busy, "drift 20, weight -1", ARGUMENT, x -> x.tell(3, 20, -1));
        answers(TickFallRangeTest::busy, "the weight before", 7, x -> x.tell(2, 0, 100));
        answers(TickFallRangeTest::busy, "the weight before, at first", 1, x -> x.tell(3, 0, 100));
    }

    /** The clocks 0 to 3, of which the 3 is the other one of the link. */
    private static void besideClock3(String what, NumberCall call) {
        int[] inside = {0, 2};
        for (int number : inside) {
            isIn(TickFallRangeTest::busy, what + " " + number, x -> call.on(x, number));
        }
        int[] outside = {-1, 4, MIN, MAX};
        for (int number : outside) {
            refused(TickFallRangeTest::busy, what + " " + number, INDEX, x -> call.on(x, number));
        }
    }

    private static void link() {
        refused(TickFallRangeTest::bare, "no clock there yet", INDEX, x -> x.link(0, 1, 0));
        refused(TickFallRangeTest::bare, "no clock there yet, twice the same", INDEX, x -> x.link(0, 0, 51));
        besideClock3("first", (x, n) -> x.link(n, 3, 0));
        besideClock3("second", (x, n) -> x.link(3, n, 0));
        range(TickFallRangeTest::busy, "asymmetry", -50, 50, ARGUMENT, (x, n) -> x.link(2, 1, n));
        for (int clock = 0; clock < 4; clock++) {
            int same = clock;
            refused(TickFallRangeTest::busy, "the clock " + clock + " twice", ARGUMENT, x -> x.link(same, same, 0));
        }
        refused(TickFallRangeTest::busy, "first 4, asymmetry 51", INDEX, x -> x.link(4, 0, 51));
        refused(TickFallRangeTest::busy, "second 4, asymmetry -51", INDEX, x -> x.link(0, 4, -51));
        refused(TickFallRangeTest::busy, "the clock 4 twice", INDEX, x -> x.link(4, 4, 0));
        refused(TickFallRangeTest::full, "a ninth one", STATE, x -> x.link(0, 1, 0));
        refused(TickFallRangeTest::full, "a ninth one, asymmetry 51", ARGUMENT, x -> x.link(0, 1, 51));
        refused(TickFallRangeTest::full, "a ninth one, asymmetry -51", ARGUMENT, x -> x.link(0, 1, -51));
        refused(TickFallRangeTest::full, "a ninth one of a clock twice", ARGUMENT, x -> x.link(5, 5, 0));
        refused(TickFallRangeTest::full, "a ninth one, first 6", INDEX, x -> x.link(6, 0, 0));
        refused(TickFallRangeTest::full, "a ninth one, second -1", INDEX, x -> x.link(0, -1, 51));
        answers(TickFallRangeTest::busy, "the sixth one", 5, x -> x.link(3, 2, -50));
    }

    private static void eventDayAndKind() {
        range(TickFallRangeTest::dayZero, "day", 1, 500, ARGUMENT, (x, n) -> x.event(n, TickFall.JUMP, 0, 0));
        range(TickFallRangeTest::busy, "day", 13, 500, ARGUMENT, (x, n) -> x.event(n, TickFall.SLIP, 0, 3));
        range(TickFallRangeTest::day499, "day", 500, 500, ARGUMENT, (x, n) -> x.event(n, TickFall.MOVE, 0, 0));
        refused(TickFallRangeTest::lastDay, "the day 500 on it", ARGUMENT, x -> x.event(500, TickFall.JUMP, 0, 0));
        refused(TickFallRangeTest::lastDay, "the day 501 on 500", ARGUMENT, x -> x.event(501, TickFall.JUMP, 0, 0));
        refused(TickFallRangeTest::busy, "the day 0", ARGUMENT, x -> x.event(0, TickFall.JUMP, 0, 0));
        range(TickFallRangeTest::busy, "kind", 0, 3, ARGUMENT, (x, n) -> x.event(13, n, 0, 0));
        refused(TickFallRangeTest::busy, "the day 12, clock 4", ARGUMENT, x -> x.event(12, TickFall.JUMP, 4, 0));
        refused(TickFallRangeTest::busy, "the day 501, link 5", ARGUMENT, x -> x.event(501, TickFall.SLIP, 5, 4));
        refused(TickFallRangeTest::busy, "kind 4, number 9", ARGUMENT, x -> x.event(13, 4, 9, 0));
        refused(TickFallRangeTest::busy, "kind -1, number -1", ARGUMENT, x -> x.event(13, -1, -1, 9999));
        refused(TickFallRangeTest::busy, "the day 12, amount 501", ARGUMENT, x -> x.event(12, TickFall.JUMP, 0, 501));
        refused(TickFallRangeTest::full, "the day 2 of 40", ARGUMENT, x -> x.event(2, TickFall.JUMP, 0, 0));
        refused(TickFallRangeTest::full, "the day 501 of 40", ARGUMENT, x -> x.event(501, TickFall.JUMP, 6, 501));
        refused(TickFallRangeTest::full, "kind 4 of 40", ARGUMENT, x -> x.event(3, 4, 0, 0));
    }

    private static void eventNumber() {
        for (int kind = TickFall.JUMP; kind <= TickFall.SLIP; kind++) {
            int what = kind;
            refused(TickFallRangeTest::bare, "nothing there yet, kind " + kind, INDEX, x -> x.event(1, what, 0, 0));
            // There are 4 clocks and 5 links, so that one taken for the other shows.
            range(TickFallRangeTest::busy, "number, kind " + kind, 0, kind <= TickFall.MOVE ? 3 : 4, INDEX,
                    (x, n) -> x.event(13, what, n, 0));
            range(TickFallRangeTest::dayOne, "number of fewer links, kind " + kind, 0, kind <= TickFall.MOVE ? 1 : 2,
                    INDEX, (x, n) -> x.event(2, what, n, 0));
            refused(TickFallRangeTest::full, "number 8 of 40, kind " + kind, INDEX, x -> x.event(3, what, 8, 0));
            refused(TickFallRangeTest::full, "number -1 of 40, kind " + kind, INDEX, x -> x.event(3, what, -1, 9999));
            refused(TickFallRangeTest::busy, "number 5, amount 9999, kind " + kind, INDEX,
                    x -> x.event(13, what, 5, 9999));
        }
    }

    private static void eventAmount() {
        int[] lows = {-500, 0, -50, -3};
        int[] highs = {500, 5000, 50, 3};
        for (int kind = TickFall.JUMP; kind <= TickFall.SLIP; kind++) {
            int what = kind;
            range(TickFallRangeTest::busy, "amount, kind " + kind, lows[kind], highs[kind], STATE,
                    (x, n) -> x.event(13, what, 1, n));
            refused(TickFallRangeTest::full, "a 41st one, kind " + kind, STATE, x -> x.event(3, what, 1, 0));
            refused(TickFallRangeTest::full, "a 41st one on the day 500, kind " + kind, STATE,
                    x -> x.event(500, what, 1, lows[what]));
            refused(TickFallRangeTest::full, "a 41st one out of range, kind " + kind, STATE,
                    x -> x.event(3, what, 1, highs[what] + 1));
        }
        answers(TickFallRangeTest::busy, "a sixth one to come", 6, x -> x.event(13, TickFall.SLIP, 4, -3));
        answers(TickFallRangeTest::full, "one in the place of those that came", 27, x -> {
            x.pass(1);
            return x.event(500, TickFall.MOVE, 5, 5000);
        });
    }

    private static void calibrate() {
        refused(TickFallRangeTest::bare, "no link there yet", INDEX, x -> x.calibrate(0, 0, 0, 0));
        range(TickFallRangeTest::busy, "link", 0, 4, INDEX, (x, n) -> x.calibrate(n, 0, 500, 5));
        range(TickFallRangeTest::busy, "from", 0, 500, ARGUMENT, (x, n) -> x.calibrate(0, n, 500, 5));
        range(TickFallRangeTest::busy, "to", 7, 500, ARGUMENT, (x, n) -> x.calibrate(0, 7, n, 5));
        range(TickFallRangeTest::busy, "to, from 500", 500, 500, ARGUMENT, (x, n) -> x.calibrate(0, 500, n, 5));
        range(TickFallRangeTest::busy, "to, from 0", 0, 500, ARGUMENT, (x, n) -> x.calibrate(0, 0, n, 5));
        range(TickFallRangeTest::busy, "amount", -10000, 10000, ARGUMENT, (x, n) -> x.calibrate(0, 1, 3, n));
        refused(TickFallRangeTest::busy, "from and to 501", ARGUMENT, x -> x.calibrate(0, 501, 501, 0));
        refused(TickFallRangeTest::busy, "from and to -1", ARGUMENT, x -> x.calibrate(0, -1, -1, 0));
        refused(TickFallRangeTest::busy, "link 5, from -1", INDEX, x -> x.calibrate(5, -1, 0, 0));
        refused(TickFallRangeTest::busy, "link 5, to 501", INDEX, x -> x.calibrate(5, 0, 501, 0));
        refused(TickFallRangeTest::busy, "link -1, amount 10001", INDEX, x -> x.calibrate(-1, 0, 0, 10001));
        for (int link = 0; link <= 7; link += 7) {
            int full = link;
            refused(TickFallRangeTest::full, "an 11th one", STATE, x -> x.calibrate(full, 0, 500, 1));
            refused(TickFallRangeTest::full, "an 11th one, from -1", ARGUMENT, x -> x.calibrate(full, -1, 0, 0));
            refused(TickFallRangeTest::full, "an 11th one, to 501", ARGUMENT, x -> x.calibrate(full, 0, 501, 0));
            refused(TickFallRangeTest::full, "an 11th one, to ahead", ARGUMENT, x -> x.calibrate(full, 2, 1, 0));
            refused(TickFallRangeTest::full, "an 11th one, 10001", ARGUMENT, x -> x.calibrate(full, 0, 0, 10001));
            refused(TickFallRangeTest::full, "an 11th one, -10001", ARGUMENT, x -> x.calibrate(full, 0, 0, -10001));
        }
        refused(TickFallRangeTest::full, "an 11th one of no link", INDEX, x -> x.calibrate(8, 0, 0, 0));
        answers(TickFallRangeTest::full, "the first one of another link", 1, x -> x.calibrate(1, 0, 500, 1));
        answers(TickFallRangeTest::busy, "the second one", 2, x -> x.calibrate(1, 0, 0, 0));
    }

    private static void boundsOfBoth() {
        range(TickFallRangeTest::busy, "doubt", 0, 499, ARGUMENT, (x, n) -> bounds(x, n, 500));
        range(TickFallRangeTest::busy, "step", 1, 1000, ARGUMENT, (x, n) -> bounds(x, 499, n));
        range(TickFallRangeTest::bare, "doubt of a new object", 0, 499, ARGUMENT, (x, n) -> bounds(x, n, 1));
        range(TickFallRangeTest::bare, "step of a new object", 1, 1000, ARGUMENT, (x, n) -> bounds(x, 0, n));
        refused(TickFallRangeTest::busy, "both", ARGUMENT, x -> bounds(x, 500, 0));
    }

    private static void pass() {
        range(TickFallRangeTest::bare, "days", 1, 50, ARGUMENT, TickFall::pass);
        range(TickFallRangeTest::busy, "days", 1, 50, ARGUMENT, TickFall::pass);
        range(TickFallRangeTest::day450, "days to the day 500", 1, 50, ARGUMENT, TickFall::pass);
        answers(TickFallRangeTest::bare, "1 day", 1, x -> x.pass(1));
        answers(TickFallRangeTest::busy, "50 days", 62, x -> x.pass(50));
        answers(TickFallRangeTest::day450, "50 days to the day 500", 500, x -> x.pass(50));
        answers(TickFallRangeTest::day451, "49 days to the day 500", 500, x -> x.pass(49));
        answers(TickFallRangeTest::day499, "1 day to the day 500", 500, x -> x.pass(1));
        refused(TickFallRangeTest::day451, "50 days beyond the day 500", STATE, x -> x.pass(50));
        refused(TickFallRangeTest::day451, "51 days beyond the day 500", ARGUMENT, x -> x.pass(51));
        refused(TickFallRangeTest::day499, "2 days beyond the day 500", STATE, x -> x.pass(2));
        refused(TickFallRangeTest::lastDay, "1 day beyond the day 500", STATE, x -> x.pass(1));
        refused(TickFallRangeTest::lastDay, "50 days beyond the day 500", STATE, x -> x.pass(50));
        int[] outside = {0, -1, 51, MIN, MAX};
        for (int days : outside) {
            refused(TickFallRangeTest::lastDay, days + " days on the day 500", ARGUMENT, x -> x.pass(days));
        }
    }

    private static void vote() {
        range(TickFallRangeTest::bare, "house for", 0, 6, INDEX, (x, n) -> x.vote(n, true));
        range(TickFallRangeTest::bare, "house against", 0, 6, INDEX, (x, n) -> x.vote(n, false));
        range(TickFallRangeTest::busy, "house for, of five votes", 0, 6, INDEX, (x, n) -> x.vote(n, true));
        range(TickFallRangeTest::busy, "house against, of five votes", 0, 6, INDEX, (x, n) -> x.vote(n, false));
        answers(TickFallRangeTest::busy, "a vote more", 6, x -> x.vote(0, true));
        answers(TickFallRangeTest::busy, "a vote less", 4, x -> x.vote(6, false));
    }

    private static void adoptOnce() {
        refused(TickFallRangeTest::bare, "no day has passed", STATE, TickFallRangeTest::adopt);
        refused(TickFallRangeTest::dayZero, "no day has passed", STATE, TickFallRangeTest::adopt);
        refused(TickFallRangeTest::adopted, "it was adopted", STATE, TickFallRangeTest::adopt);
        answers(TickFallRangeTest::dayOne, "without votes", 0, TickFallRangeTest::adopt);
        answers(TickFallRangeTest::busy, "with five votes", 1, TickFallRangeTest::adopt);
        changesNothing(TickFallRangeTest::dayOne, "what is not adopted", TickFallRangeTest::adopt);
    }

    private static void of() {
        refused(TickFallRangeTest::bare, "no clock there yet", INDEX, x -> x.of(0, 0));
        range(TickFallRangeTest::busy, "clock", 0, 3, INDEX, (x, n) -> x.of(n, 2));
        range(TickFallRangeTest::full, "clock of six", 0, 5, INDEX, (x, n) -> x.of(n, 0));
        range(TickFallRangeTest::busy, "what", 0, 2, ARGUMENT, (x, n) -> x.of(3, n));
        refused(TickFallRangeTest::busy, "clock 4, what 3", INDEX, x -> x.of(4, 3));
        refused(TickFallRangeTest::busy, "clock -1, what -1", INDEX, x -> x.of(-1, -1));
    }

    private static void measured() {
        refused(TickFallRangeTest::bare, "no link there yet", INDEX, x -> x.measured(0, 1, false));
        refused(TickFallRangeTest::dayZero, "no day that has passed", INDEX, x -> x.measured(0, 1, false));
        refused(TickFallRangeTest::dayZero, "the day 0 on it", INDEX, x -> x.measured(0, 0, true));
        boolean[] both = {false, true};
        for (boolean is : both) {
            range(TickFallRangeTest::busy, "link", 0, 3, INDEX, (x, n) -> x.measured(n, 12, is));
            range(TickFallRangeTest::busy, "day", 1, 12, INDEX, (x, n) -> x.measured(3, n, is));
            range(TickFallRangeTest::lastDay, "day to 500", 1, 500, INDEX, (x, n) -> x.measured(0, n, is));
            range(TickFallRangeTest::full, "link of eight", 0, 7, INDEX, (x, n) -> x.measured(n, 2, is));
            refused(TickFallRangeTest::busy, "on the day it was laid", INDEX, x -> x.measured(4, 12, is));
            refused(TickFallRangeTest::busy, "on a day ahead of that", INDEX, x -> x.measured(4, 1, is));
        }
    }

    private static void closes() {
        refused(TickFallRangeTest::bare, "no link there yet", INDEX, x -> x.closes(0, 1, 2, 1));
        range(TickFallRangeTest::busy, "day", 1, 12, INDEX, (x, n) -> x.closes(0, 1, 2, n));
        int[] outside = {-1, 5, MIN, MAX};
        for (int link : outside) {
            refused(TickFallRangeTest::busy, "one " + link, INDEX, x -> x.closes(link, 1, 2, 12));
            refused(TickFallRangeTest::busy, "two " + link, INDEX, x -> x.closes(0, link, 2, 12));
            refused(TickFallRangeTest::busy, "three " + link, INDEX, x -> x.closes(0, 1, link, 12));
            refused(TickFallRangeTest::busy, "no ring, three " + link, INDEX, x -> x.closes(0, 0, link, 12));
        }
        refused(TickFallRangeTest::full, "link 8", INDEX, x -> x.closes(0, 1, 8, 2));
        answers(TickFallRangeTest::full, "the last links", 6 + 7 + 5 + 45, x -> x.closes(7, 6, 5, 2));
        refused(TickFallRangeTest::busy, "one that did not measure", INDEX, x -> x.closes(4, 0, 1, 12));
        refused(TickFallRangeTest::busy, "two that did not measure", INDEX, x -> x.closes(0, 4, 1, 12));
        refused(TickFallRangeTest::busy, "three that did not measure", INDEX, x -> x.closes(0, 1, 4, 12));
        refused(TickFallRangeTest::busy, "no ring on the day 0", INDEX, x -> x.closes(0, 0, 0, 0));
        refused(TickFallRangeTest::busy, "no ring on the day 13", INDEX, x -> x.closes(0, 3, 1, 13));
        refused(TickFallRangeTest::busy, "a link three times", ARGUMENT, x -> x.closes(0, 0, 0, 12));
        refused(TickFallRangeTest::busy, "a link twice, first", ARGUMENT, x -> x.closes(0, 0, 1, 12));
        refused(TickFallRangeTest::busy, "a link twice, last", ARGUMENT, x -> x.closes(0, 1, 1, 12));
        refused(TickFallRangeTest::busy, "a link twice, around", ARGUMENT, x -> x.closes(2, 1, 2, 12));
        refused(TickFallRangeTest::busy, "two by the same clocks", ARGUMENT, x -> x.closes(0, 3, 2, 12));
    }

    private static void openAndSlips() {
        refused(TickFallRangeTest::bare, "the open rings of the day 0", INDEX, x -> x.open(0));
        refused(TickFallRangeTest::bare, "the open rings of the day 1", INDEX, x -> x.open(1));
        refused(TickFallRangeTest::bare, "the slips of the day 0", INDEX, x -> x.slips(0));
        refused(TickFallRangeTest::bare, "the slips of the day 1", INDEX, x -> x.slips(1));
        range(TickFallRangeTest::busy, "the open rings of the day", 1, 12, INDEX, TickFall::open);
        range(TickFallRangeTest::busy, "the slips of the day", 1, 12, INDEX, TickFall::slips);
        range(TickFallRangeTest::lastDay, "the open rings of the day", 1, 500, INDEX, TickFall::open);
        range(TickFallRangeTest::lastDay, "the slips of the day", 1, 500, INDEX, TickFall::slips);
    }

    private static void meanAndPublished() {
        refused(TickFallRangeTest::bare, "the mean of the day 0", INDEX, x -> x.mean(0));
        refused(TickFallRangeTest::bare, "the mean of the day 1", INDEX, x -> x.mean(1));
        refused(TickFallRangeTest::bare, "published of the day 0", INDEX, x -> x.published(0, false));
        refused(TickFallRangeTest::bare, "published of the day 1", INDEX, x -> x.published(1, true));
        Room withoutClocks = () -> {
            TickFall x = new TickFall();
            x.pass(2);
            return x;
        };
        refused(withoutClocks, "the mean without clocks", INDEX, x -> x.mean(1));
        range(withoutClocks, "published without clocks", 1, 2, INDEX, (x, n) -> x.published(n, false));
        range(TickFallRangeTest::busy, "the mean of the day", 1, 12, INDEX, TickFall::mean);
        range(TickFallRangeTest::lastDay, "the mean of the day", 1, 500, INDEX, TickFall::mean);
        boolean[] both = {false, true};
        for (boolean is : both) {
            range(TickFallRangeTest::busy, "published of the day", 1, 12, INDEX, (x, n) -> x.published(n, is));
            range(TickFallRangeTest::lastDay, "published of the day", 1, 500, INDEX, (x, n) -> x.published(n, is));
        }
    }

    private static void height() {
        refused(TickFallRangeTest::bare, "no link there yet", INDEX, x -> x.height(0, 1, 2, 0));
        refused(TickFallRangeTest::dayOne, "one day alone", INDEX, x -> x.height(0, 1, 2, 0));
        range(TickFallRangeTest::busy, "link", 0, 3, INDEX, (x, n) -> x.height(n, 1, 12, 0));
        range(TickFallRangeTest::busy, "rate", -1000, 1000, ARGUMENT, (x, n) -> x.height(0, 11, 12, n));
        isIn(TickFallRangeTest::busy, "from 1 to 2", x -> x.height(0, 1, 2, 0));
        isIn(TickFallRangeTest::busy, "from 11 to 12", x -> x.height(0, 11, 12, 0));
        isIn(TickFallRangeTest::lastDay, "from 1 to 500", x -> x.height(0, 1, 500, 1000));
        int[] noDays = {0, -1, 13, MIN, MAX};
        for (int day : noDays) {
            refused(TickFallRangeTest::busy, "from " + day, INDEX, x -> x.height(0, day, 12, 0));
            refused(TickFallRangeTest::busy, "to " + day, INDEX, x -> x.height(0, 1, day, 0));
            refused(TickFallRangeTest::busy, "from " + day + ", rate 1001", INDEX, x -> x.height(0, day, 12, 1001));
            refused(TickFallRangeTest::busy, "to " + day + ", rate -1001", INDEX, x -> x.height(0, 1, day, -1001));
            refused(TickFallRangeTest::busy, "from and to " + day, INDEX, x -> x.height(0, day, day, 0));
        }
        refused(TickFallRangeTest::lastDay, "to 501", INDEX, x -> x.height(0, 1, 501, 0));
        refused(TickFallRangeTest::busy, "to as from", ARGUMENT, x -> x.height(0, 12, 12, 0));
        refused(TickFallRangeTest::busy, "to as from, 1", ARGUMENT, x -> x.height(0, 1, 1, 0));
        refused(TickFallRangeTest::busy, "to ahead of from", ARGUMENT, x -> x.height(0, 12, 11, 0));
        refused(TickFallRangeTest::busy, "to far ahead of from", ARGUMENT, x -> x.height(0, 12, 1, 1001));
        refused(TickFallRangeTest::busy, "link 5, the same day", INDEX, x -> x.height(5, 2, 2, 0));
        refused(TickFallRangeTest::busy, "link -1, rate 1001", INDEX, x -> x.height(-1, 1, 2, 1001));
        refused(TickFallRangeTest::busy, "a link that did not measure", INDEX, x -> x.height(4, 11, 12, 0));
        refused(TickFallRangeTest::busy, "it, the same day", INDEX, x -> x.height(4, 12, 12, 1001));
        Room twoDaysLater = () -> {
            TickFall x = busy();
            x.pass(2);
            return x;
        };
        refused(twoDaysLater, "from the day on which it was laid", INDEX, x -> x.height(4, 12, 14, 0));
        answers(twoDaysLater, "from its first day", 100 * (3 - 64 + 60), x -> x.height(4, 13, 14, -60));
    }

    /** Questions change nothing: all of them are asked of one of two objects that are the same. */
    private static void questions() {
        List<Room> rooms = List.of(TickFallRangeTest::bare, TickFallRangeTest::busy, TickFallRangeTest::full,
                TickFallRangeTest::adopted, TickFallRangeTest::lastDay);
        for (Room room : rooms) {
            changesNothing(room, "what is asked of now", x -> askAll(x, TickFallRangeTest::askOfNow));
            changesNothing(room, "what is asked of days", x -> askAll(x, TickFallRangeTest::askOfLastDay));
            changesNothing(room, "what is asked of rings", x -> askAll(x, TickFallRangeTest::askOfRings));
        }
    }

    private static void askOfLastDay(TickFall x, List<String> answers) {
        askOfDay(x, x.day(), answers);
    }

    private static long askAll(TickFall x, Probe probe) {
        List<String> answers = new ArrayList<>();
        probe.ask(x, answers);
        return answers.size();
    }

    private static void check(String name, Runnable test) {
        promise = name;
        try {
            test.run();
        } catch (RuntimeException e) {
            complain("the test itself: " + e);
        }
    }

    public static void main(String[] args) {
        check("promise 2", TickFallRangeTest::clock);
        check("promise 3", TickFallRangeTest::tell);
        check("promise 4", TickFallRangeTest::link);
        check("promise 5, day and kind", TickFallRangeTest::eventDayAndKind);
        check("promise 5, number", TickFallRangeTest::eventNumber);
        check("promise 5, amount", TickFallRangeTest::eventAmount);
        check("promise 6", TickFallRangeTest::calibrate);
        check("promise 7", TickFallRangeTest::boundsOfBoth);
        check("promise 8", TickFallRangeTest::pass);
        check("promise 9", TickFallRangeTest::vote);
        check("promise 10", TickFallRangeTest::adoptOnce);
        check("promise 12", TickFallRangeTest::of);
        check("promise 13", TickFallRangeTest::measured);
        check("promise 14", TickFallRangeTest::closes);
        check("promises 15 and 16", TickFallRangeTest::openAndSlips);
        check("promises 17 and 18", TickFallRangeTest::meanAndPublished);
        check("promise 19", TickFallRangeTest::height);
        check("promises 11 to 20", TickFallRangeTest::questions);
        System.out.println(wrong == 0 ? asked + " ranges and refusals are as due" : wrong + " are not as due");
        if (wrong != 0) {
            System.exit(1);
        }
    }
}

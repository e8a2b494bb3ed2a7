import java.util.ArrayList;
import java.util.Arrays;
import java.util.List;

/**
 * Long runs of calls, made by fixed numbers, on TickFall and on a second program that follows the
 * document's words as plainly as can be (lists, all ways tried, all sums made anew): all answers must agree.
 */
public final class TickFallPlainTest {
    private static final int RUNS = 400;
    private static final int CALLS = 512;

    /** All methods by their numbers in NAMES; a boolean counts 1 or 0, nothing counts 0. */
    private interface Face {
        long answer(int method, int[] a);
    }

    private static final String[] NAMES = {"clock", "tell", "link", "event", "calibrate", "bounds", "pass", "vote",
        "adopt", "day", "of", "measured", "closes", "open", "slips", "mean", "published", "height", "events"};

    private static final class Real implements Face {
        private final TickFall x = new TickFall();

        @Override
        public long answer(int method, int[] a) {
            switch (method) {
                case 0: return x.clock(a[0], a[1]);
                case 1: return x.tell(a[0], a[1], a[2]);
                case 2: return x.link(a[0], a[1], a[2]);
                case 3: return x.event(a[0], a[1], a[2], a[3]);
                case 4: return x.calibrate(a[0], a[1], a[2], a[3]);
                case 5: x.bounds(a[0], a[1]); return 0;
                case 6: return x.pass(a[0]);
                case 7: return x.vote(a[0], a[1] == 1);
                case 8: return x.adopt() ? 1 : 0;
                case 9: return x.day();
                case 10: return x.of(a[0], a[1]);
                case 11: return x.measured(a[0], a[1], a[2] == 1);
                case 12: return x.closes(a[0], a[1], a[2], a[3]);
                case 13: return x.open(a[0]);
                case 14: return x.slips(a[0]);
                case 15: return x.mean(a[0]);
                case 16: return x.published(a[0], a[1] == 1);
                case 17: return x.height(a[0], a[1], a[2], a[3]);
                default: return x.events();
            }
        }
    }

    private static final class PlainClock {
        long rate, drift, height, phase, weight = 1;
    }

    private static final class PlainLink {
        int first, second;
        long asymmetry, cycles;
        final Long[] measured = new Long[501];
        final List<int[]> calibrations = new ArrayList<>();

        Long corrected(int day) {
            if (measured[day] == null) {
                return null;
            }
            long sum = measured[day];
            for (int[] told : calibrations) {
                if (told[0] <= day && day <= told[1]) {
                    sum -= told[2];
                }
            }
            return sum;
        }
    }

    private static final class Plain implements Face {
        final List<PlainClock> clocks = new ArrayList<>();
        final List<PlainLink> links = new ArrayList<>();
        final List<int[]> events = new ArrayList<>();
        final List<Long> published = new ArrayList<>(List.of(0L));
        final boolean[] votes = new boolean[7];
        int today = 0;
        long doubt = 100, step = 20;
        boolean adopted = false;

        static void argument(boolean isGood) {
            if (!isGood) {
                throw new IllegalArgumentException();
            }
        }

        static void index(boolean isGood) {
            if (!isGood) {
                throw new IndexOutOfBoundsException();
            }
        }

        static void state(boolean isGood) {
            if (!isGood) {
                throw new IllegalStateException();
            }
        }

        static boolean in(long n, long low, long high) {
            return low <= n && n <= high;
        }

        static long hold(long n, long bound) {
            return n > bound ? bound : n < -bound ? -bound : n;
        }

        boolean isClock(int n) {
            return in(n, 0, clocks.size() - 1);
        }

        boolean isLink(int n) {
            return in(n, 0, links.size() - 1);
        }

        boolean isDay(int day) {
            return in(day, 1, today);
        }

        boolean hasMeasured(int link, int day) {
            return isLink(link) && isDay(day) && links.get(link).measured[day] != null;
        }

        @Override
        public long answer(int method, int[] a) {
            switch (method) {
                case 0: return clock(a[0], a[1]);
                case 1: return tell(a[0], a[1], a[2]);
                case 2: return link(a[0], a[1], a[2]);
                case 3: return event(a);
                case 4: return calibrate(a);
                case 5:
                    argument(in(a[0], 0, 499) && in(a[1], 1, 1000));
                    doubt = a[0];
                    step = a[1];
                    return 0;
                case 6: return pass(a[0]);
                case 7:
                    index(in(a[0], 0, 6));
                    votes[a[0]] = a[1] == 1;
                    return houses();
                case 8:
                    state(!adopted && today > 0);
                    adopted = houses() >= 5 && open(today) == 0;
                    return adopted ? 1 : 0;
                case 9: return today;
                case 10: return of(a[0], a[1]);
                case 11:
                    index(hasMeasured(a[0], a[1]));
                    return a[2] == 1 ? links.get(a[0]).corrected(a[1]) : links.get(a[0]).measured[a[1]];
                case 12: return closes(a);
                case 13:
                    index(isDay(a[0]));
                    return open(a[0]);
                case 14:
                    index(isDay(a[0]));
                    return slips(a[0]);
                case 15:
                    index(isDay(a[0]) && !clocks.isEmpty());
                    return mean(a[0]);
                case 16: return published(a[0], a[1] == 1);
                case 17: return height(a);
                default: return events.size();
            }
        }

        long clock(int rate, int height) {
            argument(in(rate, -500, 500) && in(height, 0, 5000));
            state(clocks.size() < 6);
            PlainClock clock = new PlainClock();
            clock.rate = rate;
            clock.height = height;
            clocks.add(clock);
            return clocks.size() - 1;
        }

        long tell(int clock, int drift, int weight) {
            index(isClock(clock));
            argument(in(drift, -20, 20) && in(weight, 0, 100));
            long before = clocks.get(clock).weight;
            clocks.get(clock).drift = drift;
            clocks.get(clock).weight = weight;
            return before;
        }

        long link(int first, int second, int asymmetry) {
            index(isClock(first) && isClock(second));
            argument(first != second && in(asymmetry, -50, 50));
            state(links.size() < 8);
            PlainLink link = new PlainLink();
            link.first = first;
            link.second = second;
            link.asymmetry = asymmetry;
            links.add(link);
            return links.size() - 1;
        }

        long event(int[] a) {
            argument(in(a[0], today + 1, 500) && in(a[1], 0, 3));
            index(a[1] < 2 ? isClock(a[2]) : isLink(a[2]));
            int[][] ranges = {{-500, 500}, {0, 5000}, {-50, 50}, {-3, 3}};
            state(in(a[3], ranges[a[1]][0], ranges[a[1]][1]) && events.size() < 40);
            events.add(a.clone());
            return events.size();
        }

        long calibrate(int[] a) {
            index(isLink(a[0]));
            argument(in(a[1], 0, 500) && in(a[2], a[1], 500) && in(a[3], -10000, 10000));
            List<int[]> told = links.get(a[0]).calibrations;
            state(told.size() < 10);
            told.add(new int[] {a[1], a[2], a[3]});
            return told.size();
        }

        long pass(int days) {
            argument(in(days, 1, 50));
            state(today + days <= 500);
            for (int i = 0; i < days; i++) {
                passOne();
            }
            return today;
        }

        void passOne() {
            today++;
            List<int[]> due = new ArrayList<>();
            for (int[] event : events) {
                if (event[0] == today) {
                    due.add(event);
                }
            }
            due.sort(Arrays::compare);
            events.removeAll(due);
            for (int[] event : due) {
                happen(event[1], event[2], event[3]);
            }
            for (PlainClock clock : clocks) {
                clock.phase += clock.rate;
                clock.phase += clock.height / 100;
                if (today % 10 == 0) {
                    clock.rate = hold(clock.rate + clock.drift, 5000);
                }
            }
            for (PlainLink link : links) {
                link.measured[today] = clocks.get(link.first).phase - clocks.get(link.second).phase
                        + link.asymmetry + 1000 * link.cycles;
            }
            long before = published.get(today - 1);
            published.add(before + hold(mean(today) - before, step));
        }

        void happen(int kind, int number, int amount) {
            if (kind == 0) {
                clocks.get(number).rate = hold(clocks.get(number).rate + amount, 5000);
            } else if (kind == 1) {
                clocks.get(number).height = amount;
            } else if (kind == 2) {
                links.get(number).asymmetry = amount;
            } else {
                links.get(number).cycles += amount;
            }
        }

        int houses() {
            int houses = 0;
            for (boolean is : votes) {
                houses += is ? 1 : 0;
            }
            return houses;
        }

        long of(int clock, int what) {
            index(isClock(clock));
            argument(in(what, 0, 2));
            PlainClock it = clocks.get(clock);
            return what == 0 ? it.phase : what == 1 ? it.rate : it.height;
        }

        /** The clocks one link after the other, as the words go: walks on from the end that it has come to. */
        boolean isRing(int... three) {
            boolean[][] joined = new boolean[6][6];
            int pairs = 0;
            boolean[] met = new boolean[6];
            for (int n : three) {
                int a = Math.min(links.get(n).first, links.get(n).second);
                int b = Math.max(links.get(n).first, links.get(n).second);
                if (!joined[a][b]) {
                    pairs++;
                }
                joined[a][b] = true;
                met[a] = true;
                met[b] = true;
            }
            int clocksMet = 0;
            for (boolean is : met) {
                clocksMet += is ? 1 : 0;
            }
            return pairs == 3 && clocksMet == 3;
        }

        long around(int day, int[] cycles, int... three) {
            int[] sorted = three.clone();
            Arrays.sort(sorted);
            boolean[] gone = new boolean[3];
            long sum = links.get(sorted[0]).corrected(day) - 1000 * cycles[sorted[0]];
            int at = links.get(sorted[0]).second;
            gone[0] = true;
            for (int steps = 0; steps < 2; steps++) {
                for (int i = 0; i < 3; i++) {
                    PlainLink link = links.get(sorted[i]);
                    if (!gone[i] && (link.first == at || link.second == at)) {
                        long value = link.corrected(day) - 1000 * cycles[sorted[i]];
                        sum += link.first == at ? value : -value;
                        at = link.first == at ? link.second : link.first;
                        gone[i] = true;
                        break;
                    }
                }
            }
            return sum;
        }

        long closes(int[] a) {
            index(hasMeasured(a[0], a[3]) && hasMeasured(a[1], a[3]) && hasMeasured(a[2], a[3]));
            argument(isRing(a[0], a[1], a[2]));
            return around(a[3], new int[8], a[0], a[1], a[2]);
        }

        List<int[]> ringsOf(int day) {
            List<int[]> rings = new ArrayList<>();
            for (int i = 0; i < links.size(); i++) {
                for (int j = i + 1; j < links.size(); j++) {
                    for (int k = j + 1; k < links.size(); k++) {
                        if (hasMeasured(i, day) && hasMeasured(j, day) && hasMeasured(k, day) && isRing(i, j, k)) {
                            rings.add(new int[] {i, j, k});
                        }
                    }
                }
            }
            return rings;
        }

        int notClosed(List<int[]> rings, int day, int[] cycles, int enough) {
            int open = 0;
            for (int i = 0; i < rings.size() && open < enough; i++) {
                if (Math.abs(around(day, cycles, rings.get(i))) > doubt) {
                    open++;
                }
            }
            return open;
        }

        long open(int day) {
            return notClosed(ringsOf(day), day, new int[8], 1000);
        }

        long slips(int day) {
            List<int[]> rings = ringsOf(day);
            int ways = (int) Math.pow(3, links.size());
            int best = -1;
            int fewest = 9;
            for (int way = 0; way < ways; way++) {
                int[] cycles = new int[8];
                int rest = way;
                int slipped = 0;
                boolean isWay = true;
                for (int link = 0; link < links.size(); link++) {
                    cycles[link] = rest % 3 - 1;
                    rest /= 3;
                    slipped += cycles[link] != 0 ? 1 : 0;
                    isWay &= cycles[link] == 0 || hasMeasured(link, day);
                }
                if (isWay && slipped < fewest && notClosed(rings, day, cycles, 1) == 0) {
                    fewest = slipped;
                    best = way;
                }
            }
            return best;
        }

        long mean(int day) {
            if (clocks.isEmpty()) {
                return 0;
            }
            long sum = 0;
            long weights = clocks.get(0).weight;
            for (int clock = 1; clock < clocks.size(); clock++) {
                for (int n = 0; n < links.size(); n++) {
                    PlainLink link = links.get(n);
                    boolean isOut = link.first == 0 && link.second == clock;
                    boolean isIn = link.first == clock && link.second == 0;
                    if ((isOut || isIn) && hasMeasured(n, day)) {
                        sum += clocks.get(clock).weight * (isIn ? link.corrected(day) : -link.corrected(day));
                        weights += clocks.get(clock).weight;
                        break;
                    }
                }
            }
            return weights == 0 ? 0 : sum / weights;
        }

        long published(int day, boolean isAnew) {
            index(isDay(day));
            if (!isAnew) {
                return published.get(day);
            }
            long time = 0;
            for (int d = 1; d <= day; d++) {
                time += hold(mean(d) - time, step);
            }
            return time;
        }

        long height(int[] a) {
            index(hasMeasured(a[0], a[1]) && hasMeasured(a[0], a[2]));
            argument(a[1] < a[2] && in(a[3], -1000, 1000));
            PlainLink link = links.get(a[0]);
            long days = a[2] - a[1];
            return 100 * (link.corrected(a[2]) - link.corrected(a[1]) - a[3] * days) / days;
        }
    }

    /** Makes the calls: a fixed row of numbers for each run, so that a run is the same each time. */
    private static final class Maker {
        private long state;
        private final int passesAtOnce;

        Maker(int run) {
            state = 1000003L * run + 12345;
            passesAtOnce = new int[] {2, 5, 12, 52}[run % 4];
        }

        int below(int bound) {
            state = state * 6364136223846793005L + 1442695040888963407L;
            return (int) ((state >>> 33) % bound);
        }

        int in(int low, int high) {
            return low + below(high - low + 1);
        }

        /** Mostly within the range, often at an end of it, and now and then beyond it. */
        int near(int low, int end) {
            int high = Math.max(low, end);
            int way = below(40);
            if (way < 4) {
                return way % 2 == 0 ? low : high;
            }
            if (way == 4) {
                return below(2) == 0 ? low - 1 : high + 1;
            }
            if (way == 5) {
                return below(2) == 0 ? Integer.MIN_VALUE : Integer.MAX_VALUE;
            }
            return in(low, high);
        }

        int amount(int kind) {
            switch (kind) {
                case 0: return below(3) == 0 ? near(-500, 500) : in(-20, 20);
                case 1: return near(0, 5000);
                case 2: return near(-50, 50);
                default: return below(4) == 0 ? near(-3, 3) : in(-1, 1);
            }
        }

        int[] arguments(int method, Plain now) {
            int clocks = now.clocks.size();
            int links = now.links.size();
            int today = now.today;
            switch (method) {
                case 0: return new int[] {near(-500, 500), near(0, 5000)};
                case 1: return new int[] {near(0, clocks - 1), near(-20, 20), below(4) == 0 ? 0 : near(0, 100)};
                case 2: return new int[] {near(0, clocks - 1), near(0, clocks - 1), near(-50, 50)};
                case 3: {
                    int kind = near(0, 3);
                    return new int[] {below(4) == 0 ? near(today + 1, 500) : near(today + 1, today + 4), kind,
                        near(0, (kind == 0 || kind == 1 ? clocks : links) - 1), amount(kind)};
                }
                case 4: {
                    int from = below(3) == 0 ? near(0, 500) : near(0, today);
                    int to = below(3) == 0 ? near(Math.max(0, Math.min(from, 500)), 500) : Math.min(500, from / 2 + 250);
                    int amount = below(3) == 0 ? near(-10000, 10000) : 1000 * in(-2, 2) + in(-3, 3);
                    return new int[] {near(0, links - 1), from, to, amount};
                }
                case 5: return new int[] {near(0, 499), near(1, 1000)};
                case 6: return new int[] {below(10) == 0 ? near(1, 50) : in(1, passesAtOnce)};
                case 7: return new int[] {near(0, 6), below(3) == 0 ? 0 : 1};
                case 10: return new int[] {near(0, clocks - 1), near(0, 2)};
                case 11: return new int[] {near(0, links - 1), near(1, today), below(2)};
                case 12: return closing(now);
                case 13: case 14: case 15: return new int[] {near(1, today)};
                case 16: return new int[] {near(1, today), below(2)};
                case 17: return new int[] {near(0, links - 1), near(1, today), near(1, today), near(-1000, 1000)};
                default: return new int[0];
            }
        }

        /** Mostly a ring, told in any order. */
        int[] closing(Plain now) {
            int day = near(1, now.today);
            List<int[]> rings = now.isDay(day) ? now.ringsOf(day) : List.of();
            if (rings.isEmpty() || below(4) == 0) {
                int last = now.links.size() - 1;
                return new int[] {near(0, last), near(0, last), near(0, last), day};
            }
            int[] ring = rings.get(below(rings.size()));
            int at = below(3);
            int step = 1 + below(2);
            return new int[] {ring[at], ring[(at + step) % 3], ring[(at + 2 * step) % 3], day};
        }

        int method(int call, int run) {
            if (call < 30 && below(2) == 0) {
                return below(3) == 0 ? 0 : 2;
            }
            if (below(6) == 0) {
                return run % 5 == 0 ? 3 : 6;
            }
            return below(NAMES.length);
        }
    }

    private static String answerOf(Face face, int method, int[] arguments) {
        try {
            return Long.toString(face.answer(method, arguments));
        } catch (RuntimeException e) {
            return "throws." + e.getClass().getSimpleName();
        }
    }

    public static void main(String[] args) {
        int[] answered = new int[NAMES.length];
        int[] thrown = new int[NAMES.length];
        int found = 0;
        for (int run = 0; run < RUNS; run++) {
            Real real = new Real();
            Plain plain = new Plain();
            Maker maker = new Maker(run);
            for (int call = 0; call < CALLS; call++) {
                int method = maker.method(call, run);
                int[] arguments = maker.arguments(method, plain);
                String due = answerOf(plain, method, arguments);
                String got = answerOf(real, method, arguments);
                if (due.startsWith("throws")) {
                    thrown[method]++;
                } else {
                    answered[method]++;
                    found += method == 14 && !due.equals("-1") ? 1 : 0;
                }
                if (!got.equals(due)) {
                    System.out.println("run " + run + ", call " + call + ": " + NAMES[method]
                            + Arrays.toString(arguments) + " answered " + got + ", due is " + due);
                    System.exit(1);
                }
            }
        }
        for (int method = 0; method < NAMES.length; method++) {
            System.out.println(NAMES[method] + ": " + answered[method] + " answered, " + thrown[method] + " thrown");
        }
        System.out.println(RUNS + " runs agree; slips found " + found + " times");
    }
}
